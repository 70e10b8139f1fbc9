/-! part ly: the reference's law exactly: what it tells, too -/
noncomputable def zYt : List (Nat × Nat) := [(0, 92), (2, 58)]
noncomputable def zFt : List (Nat × Nat × Nat) := [(0, 2, 2)]
noncomputable def zK_tlx : zk_K := (zt_mn 183, prog_14_method_7_code, 2, (Option.some Jvm.ClassFile.FieldType.int), 1, 12, [(2, 92, 0, 0), (0, 0, (-6), 2147483647)], [(some (0, 0, (-2147483648), 2147483647), [])], [(92, 1, 0), (58, 1001, 0)], (0, 0, 0, 0))
noncomputable def zφ_tlx (A : Nat → Nat) (M : Nat → Nat → Int) : (Nat → Option Nat) → (Nat → Nat → Int) → List Int → Prop := fun P G ps => zM A zYt zFt M P G ∧ ps.getD 0 0 = (A 0 : Int) ∧ -6 ≤ (ps.getD 1 0)
noncomputable def zψ_tlx (A : Nat → Nat) (M : Nat → Nat → Int) : (Nat → Option Nat) → (Nat → Nat → Int) → List Int → (Nat → Option Nat) → (Nat → Nat → Int) → Int → Prop := fun P G ps P' G' rn => P' = P ∧ ∃ M' : Nat → Nat → Int, zM A zYt zFt M' P' G' ∧ M' = zT_tell M (ps.getD 1 0) ∧ rn = (ps.getD 1 0)
theorem zX_tlx {l : Launch} {w : zk_W} (hW : zh_W w) (A : Nat → Nat) (M : Nat → Nat → Int) : zk_metX l w zt_dv zt_TB zK_tlx (zp_A (zφ_tlx A M)) (zp_B (zψ_tlx A M)) ∧ zk_cok w zt_TB zK_tlx := by
  refine zp_methX (cn := "WoundTownModel") zp_lkall hW (pl := 1561) rfl (by decide +kernel) (fun p e R s m args below meth c Q u hx hb hE hQ hU5 heff hnL hok hφ => ?_)
  have hw := hW.1
  obtain ⟨p0, p1, hps, tk0, tk1⟩ := zp_ps2 hok
  have hrm : zk_Kr (zk_ev (zt_types, zp_lk, zt_dv, [], [], zp_lc, zK_tlx)) = zk_Kr zK_tlx := rfl
  rw [hps] at hφ ⊢
  have hφ : zM A zYt zFt M u.1 (zp_n u.2.1) ∧ p0 = (A 0 : Int) ∧ -6 ≤ p1 := hφ
  obtain ⟨hM, rfl, hv6⟩ := hφ
  have hi1 := zp_int tk1
  show zp_J p l e R s m args below meth c Q w u [] 0 [(0, 2, (A 0 : Int)), (1, 0, p1)] [] u.1 (zp_n u.2.1)
  by_cases hv0 : p1 < 0
  · obtain ⟨j9, hj9⟩ : ∃ j9 : Nat, -p1 = (j9 : Int) := zp_nat (by omega)
    have hj6 : (-p1).toNat = j9 := by omega
    refine zp_load (pc := 0) hx hb (zd_X12_tell (0, .aload_n 0, 1, 0, []) (List.mem_of_getElem? (i := 0) rfl)) rfl (j := 0) rfl ?_
    refine zp_load (pc := 1) hx hb (zd_X12_tell (1, .iload_n 1, 1, 0, []) (List.mem_of_getElem? (i := 1) rfl)) rfl (j := 1) rfl ?_
    refine zp_if (pc := 2) (tgt := 9) hx hb (zd_X12_tell (2, .ifCond .ge 7, 3, 0, []) (List.mem_of_getElem? (i := 2) rfl)) rfl (fun (hc54 : 0 ≤ p1) => ?_) (fun (hc54 : ¬ (0 ≤ p1)) => ?_)
    · exfalso
      omega
    · refine zp_load (pc := 5) hx hb (zd_X12_tell (5, .iload_n 1, 1, 0, []) (List.mem_of_getElem? (i := 3) rfl)) rfl (j := 1) rfl ?_
      refine zp_goto (tgt := 10) (pc := 6) hx hb (zd_X12_tell (6, .goto 4, 3, 0, []) (List.mem_of_getElem? (i := 4) rfl)) rfl ?_
      refine zp_putf (pc := 10) hx hb hE hw heff (zd_X12_tell (10, .putfield 164, 3, 0, []) (List.mem_of_getElem? (i := 6) rfl)) (j := 19) rfl rfl rfl (zM_P hM (List.mem_of_getElem? (i := 0) rfl)) (zp_o0 (by omega) (by omega) (by omega) (by omega)) ?_
      refine zp_load (pc := 13) hx hb (zd_X12_tell (13, .iload_n 1, 1, 0, []) (List.mem_of_getElem? (i := 7) rfl)) rfl (j := 1) rfl ?_
      refine zp_if (pc := 14) (tgt := 28) hx hb (zd_X12_tell (14, .ifCond .ge 14, 3, 0, []) (List.mem_of_getElem? (i := 8) rfl)) rfl (fun (hc55 : 0 ≤ p1) => ?_) (fun (hc55 : ¬ (0 ≤ p1)) => ?_)
      · exfalso
        omega
      · refine zp_load (pc := 17) hx hb (zd_X12_tell (17, .aload_n 0, 1, 0, []) (List.mem_of_getElem? (i := 9) rfl)) rfl (j := 0) rfl ?_
        refine zp_getf (n := (A 2 : Int)) (pc := 18) hx hb hE hw (zd_X12_tell (18, .getfield 7, 3, 0, []) (List.mem_of_getElem? (i := 10) rfl)) (j := 20) rfl rfl rfl (zM_P hM (List.mem_of_getElem? (i := 0) rfl)) ((zp_set_ne (Or.inr (by decide))).trans (((zM_G hM (List.mem_of_getElem? (i := 0) rfl) 2).trans (zM_F hM (List.mem_of_getElem? (i := 0) rfl))))) ?_
        refine zp_load (pc := 21) hx hb (zd_X12_tell (21, .iload_n 1, 1, 0, []) (List.mem_of_getElem? (i := 11) rfl)) rfl (j := 1) rfl ?_
        refine zp_neg (n := (j9 : Int)) (pc := 22) hx hb (zd_X12_tell (22, .ineg, 1, 0, []) (List.mem_of_getElem? (i := 12) rfl)) (by omega) (zp_r0 (by omega) (by omega)) ?_
        refine zp_dup2 (pc := 23) hx hb (zd_X12_tell (23, .dup2, 1, 0, []) (List.mem_of_getElem? (i := 13) rfl)) (show (0 : Nat) ≠ 1 by decide) (show (2 : Nat) ≠ 1 by decide) ?_
        refine zp_iald (j := j9) (v := (M 2 (2000 + j9))) (pc := 24) hx hb hw (zd_X12_tell (24, .iaload, 1, 0, []) (List.mem_of_getElem? (i := 14) rfl)) (show zp_ia 1 58 = some (7, 0, 0, (-2147483648), 2147483647) from rfl) (zM_P hM (List.mem_of_getElem? (i := 1) rfl)) (by omega) (by omega) ((zp_set_ne (Or.inl (zM_ne hM (List.mem_of_getElem? (i := 1) rfl) (List.mem_of_getElem? (i := 0) rfl) (by decide)))).trans ((zM_G hM (List.mem_of_getElem? (i := 1) rfl) (2000 + j9)))) (fun hk56 => ?_)
        have hk56b := zp_int hk56
        clear hk56
        refine zp_const (pc := 25) hx hb (zd_X12_tell (25, .iconst 1, 1, 0, []) (List.mem_of_getElem? (i := 15) rfl)) rfl rfl ?_
        refine zp_binx (o := 0) (n := (zw_add (M 2 (2000 + j9)) 1)) (pc := 26) hx hb (zd_X12_tell (26, .iadd, 1, 0, []) (List.mem_of_getElem? (i := 16) rfl)) rfl (by decide) rfl ?_
        have hw57 := zw_addb (M 2 (2000 + j9)) 1
        refine zp_iast (j := j9) (pc := 27) hx hb hw heff (zd_X12_tell (27, .iastore, 1, 0, []) (List.mem_of_getElem? (i := 17) rfl)) (show zp_ia 1 58 = some (7, 0, 0, (-2147483648), 2147483647) from rfl) (zM_P hM (List.mem_of_getElem? (i := 1) rfl)) (by omega) (by omega) (zp_o0 (by omega) (by omega) (by omega) (by omega)) rfl ?_
        refine zp_load (pc := 28) hx hb (zd_X12_tell (28, .iload_n 1, 1, 0, []) (List.mem_of_getElem? (i := 18) rfl)) rfl (j := 1) rfl ?_
        refine zp_iret (pc := 29) (n := p1) hx hb hE hQ hU5 rfl (by decide) (zd_X12_tell (29, .ireturn, 1, 0, []) (List.mem_of_getElem? (i := 19) rfl)) (j := 0) rfl (zp_o0 (by omega) (by omega) (by omega) (by omega)) ?_
        rw [hps]
        refine ⟨rfl, (zp_set (zp_set M 0 1 p1) 2 (2000 + j9) (zw_add (M 2 (2000 + j9)) 1)), (zM_setE (zM_set hM (List.mem_of_getElem? (i := 0) rfl) (by decide)) (List.mem_of_getElem? (i := 1) rfl)), ?_⟩
        refine ⟨?_, rfl⟩
        show _ = zT_tell M p1
        unfold zT_tell
        rw [if_pos hv0, hj6]
  · refine zp_load (pc := 0) hx hb (zd_X12_tell (0, .aload_n 0, 1, 0, []) (List.mem_of_getElem? (i := 0) rfl)) rfl (j := 0) rfl ?_
    refine zp_load (pc := 1) hx hb (zd_X12_tell (1, .iload_n 1, 1, 0, []) (List.mem_of_getElem? (i := 1) rfl)) rfl (j := 1) rfl ?_
    refine zp_if (pc := 2) (tgt := 9) hx hb (zd_X12_tell (2, .ifCond .ge 7, 3, 0, []) (List.mem_of_getElem? (i := 2) rfl)) rfl (fun (hc58 : 0 ≤ p1) => ?_) (fun (hc58 : ¬ (0 ≤ p1)) => ?_)
    · refine zp_const (pc := 9) hx hb (zd_X12_tell (9, .iconst 0, 1, 0, []) (List.mem_of_getElem? (i := 5) rfl)) rfl rfl ?_
      refine zp_putf (pc := 10) hx hb hE hw heff (zd_X12_tell (10, .putfield 164, 3, 0, []) (List.mem_of_getElem? (i := 6) rfl)) (j := 19) rfl rfl rfl (zM_P hM (List.mem_of_getElem? (i := 0) rfl)) (zp_o0 (by decide) (by decide) (by decide) (by decide)) ?_
      refine zp_load (pc := 13) hx hb (zd_X12_tell (13, .iload_n 1, 1, 0, []) (List.mem_of_getElem? (i := 7) rfl)) rfl (j := 1) rfl ?_
      refine zp_if (pc := 14) (tgt := 28) hx hb (zd_X12_tell (14, .ifCond .ge 14, 3, 0, []) (List.mem_of_getElem? (i := 8) rfl)) rfl (fun (hc59 : 0 ≤ p1) => ?_) (fun (hc59 : ¬ (0 ≤ p1)) => ?_)
      · refine zp_load (pc := 28) hx hb (zd_X12_tell (28, .iload_n 1, 1, 0, []) (List.mem_of_getElem? (i := 18) rfl)) rfl (j := 1) rfl ?_
        refine zp_iret (pc := 29) (n := p1) hx hb hE hQ hU5 rfl (by decide) (zd_X12_tell (29, .ireturn, 1, 0, []) (List.mem_of_getElem? (i := 19) rfl)) (j := 0) rfl (zp_o0 (by omega) (by omega) (by omega) (by omega)) ?_
        rw [hps]
        refine ⟨rfl, (zp_set M 0 1 0), (zM_set hM (List.mem_of_getElem? (i := 0) rfl) (by decide)), ?_⟩
        refine ⟨?_, rfl⟩
        show _ = zT_tell M p1
        unfold zT_tell
        rw [if_neg hv0]
      · exfalso
        omega
    · exfalso
      omega
noncomputable def zA2 (a b : Nat) : Nat → Nat := fun o => if o = 0 then a else b
theorem zt_zM {P : Nat → Option Nat} {G : Nat → Nat → Int} {a b : Nat} (hp : P a = some 92) (hq : P b = some 58) (h2 : G a 2 = (b : Int)) : zM (zA2 a b) zYt zFt (fun o k => G (zA2 a b o) k) P G := by
  have hab : a ≠ b := fun e => by
    rw [e, hq] at hp
    exact absurd (Option.some.inj hp) (by decide)
  have hy : ∀ q ∈ zYt, q = (0, 92) ∨ q = (2, 58) := fun q h => by simpa [zYt] using h
  have hf : ∀ r ∈ zFt, r = (0, 2, 2) := fun r h => by simpa [zFt] using h
  refine ⟨fun q h => ?_, fun r h => ?_, fun q h r h9 he => ?_, fun r h => ?_⟩
  · rcases hy q h with rfl | rfl
    · exact ⟨hp, fun _ => rfl⟩
    · exact ⟨hq, fun _ => rfl⟩
  · rw [hf r h]
    exact h2
  · rcases hy q h with rfl | rfl
    · rcases hy r h9 with rfl | rfl
      · rfl
      · exact absurd he hab
    · rcases hy r h9 with rfl | rfl
      · exact absurd he.symm hab
      · rfl
  · rw [hf r h]
    decide
/-- what was told -/
noncomputable def zDts (a b : Nat) (G G' : Nat → Nat → Int) (v : Int) : Prop := G' a 1 = (if v < 0 then v else 0) ∧ ∀ k, G' b k = if v < 0 ∧ k = 2000 + (-v).toNat then zw_add (G b k) 1 else G b k
theorem zt_ts {P' : Nat → Option Nat} {G G' M' : Nat → Nat → Int} {a b : Nat} {v : Int} (hM : zM (zA2 a b) zYt zFt M' P' G') (hT : M' = zT_tell (fun o k => G (zA2 a b o) k) v) : zDts a b G G' v := by
  have g0 : ∀ k, G' a k = M' 0 k := fun k => zM_G hM (o := 0) (t := 92) (List.mem_of_getElem? (i := 0) rfl) k
  have g2 : ∀ k, G' b k = M' 2 k := fun k => zM_G hM (o := 2) (t := 58) (List.mem_of_getElem? (i := 1) rfl) k
  refine ⟨?_, fun k => ?_⟩
  · rw [g0, hT]
    unfold zT_tell
    by_cases c : v < 0
    · rw [if_pos c, if_pos c]
      exact (zp_set_ne (Or.inl (by decide))).trans zp_set_self
    · rw [if_neg c, if_neg c]
      exact zp_set_self
  · rw [g2, hT]
    unfold zT_tell
    by_cases c : v < 0
    · rw [if_pos c]
      by_cases d : k = 2000 + (-v).toNat
      · rw [if_pos ⟨c, d⟩, d]
        exact zp_set_self
      · rw [if_neg (fun z => d z.2)]
        exact (zp_set_ne (Or.inr d)).trans (zp_set_ne (Or.inl (by decide)))
    · rw [if_neg c, if_neg (fun z => c z.1)]
      exact zp_set_ne (Or.inl (by decide))
theorem zt_dts {G0 G G' : Nat → Nat → Int} {a b : Nat} {v rn : Int} (h : zDts a b G G' v) (hk : ∀ k, G b k = G0 b k) (hr : rn = v) : zDts a b G0 G' rn := by
  subst hr
  refine ⟨h.1, fun k => ?_⟩
  rw [h.2 k, hk]
noncomputable def zφD_lwx (B : Nat → Int) (ln : Nat) : (Nat → Option Nat) → (Nat → Nat → Int) → List Int → Prop := fun P G ps => G (zp_0 ps) 13 = (ln : Int) ∧ ln ≤ 400 ∧ (∀ j, zv G (zp_0 ps) 12 j = B j) ∧ (∀ j, 0 ≤ B j ∧ B j ≤ 255) ∧ 0 ≤ G (zp_0 ps) 30 ∧ zDw P false (zp_0 ps) G ∧ zDh P (zp_0 ps) G
noncomputable def zψD_lwx (B : Nat → Int) (ln : Nat) : (Nat → Option Nat) → (Nat → Nat → Int) → List Int → (Nat → Option Nat) → (Nat → Nat → Int) → Int → Prop := fun P G ps P' G' rn => P' = P ∧ zDl (zp_0 ps) G G' B ln rn ∧ ∀ b2 : Nat, G (zp_0 ps) 2 = (b2 : Int) → P b2 = some 58 → zDts (zp_0 ps) b2 G G' rn
set_option maxHeartbeats 8000000 in
theorem zY_lwx {l : Launch} {w : zk_W} (hW : zh_W w) (B : Nat → Int) (ln : Nat) : zk_metX l w zt_dv zt_TB zK_lw (zp_A (zφD_lwx B ln)) (zp_B (zψD_lwx B ln)) ∧ zk_cok w zt_TB zK_lw := by
  refine zp_meth hW (pl := 1672) rfl (by decide +kernel) (fun p e R s m args below meth c Q u hx hb hE hQ hU5 heff hnL hok hφ => ?_)
  have hw := hW.1
  obtain ⟨p0, hps, k0⟩ := zp_ps1 hok
  obtain ⟨a, rfl, hp⟩ := zp_this k0
  have hrm : zk_Kr (zk_ev (zp_E zK_lw)) = zk_Kr zK_lw := rfl
  rw [hps] at hφ ⊢
  have hφ : (zp_n u.2.1) a 13 = (ln : Int) ∧ ln ≤ 400 ∧ (∀ j, zv (zp_n u.2.1) a 12 j = B j) ∧ (∀ j, 0 ≤ B j ∧ B j ≤ 255) ∧ 0 ≤ (zp_n u.2.1) a 30 ∧ zDw u.1 false a (zp_n u.2.1) ∧ zDh u.1 a (zp_n u.2.1) := hφ
  obtain ⟨h13, hl4, h12, hB, h30, hw0, hh0⟩ := hφ
  have h20 : zp_n u.2.1 a 20 = 0 := hw0.1
  show zp_J p l e R s m args below meth c Q w u [] 0 [(0, 2, (a : Int))] [] u.1 (zp_n u.2.1)
  refine zp_kn (k := 2) (a := a) hw (show zp_fd 92 2 = some (12, 2, 58, 0, 0) from rfl) rfl hp (fun hk2 => ?_)
  obtain ⟨b2, hb2, hq2⟩ := zp_this hk2
  refine zp_kn (k := 3) (a := a) hw (show zp_fd 92 3 = some (12, 2, 59, 0, 0) from rfl) rfl hp (fun hk3 => ?_)
  obtain ⟨b3, hb3, hq3⟩ := zp_this hk3
  refine zp_kn (k := 12) (a := a) hw (show zp_fd 92 12 = some (12, 2, 66, 0, 0) from rfl) rfl hp (fun hk12 => ?_)
  obtain ⟨b12, hb12, hq12⟩ := zp_this hk12
  refine zp_kn (k := 22) (a := a) hw (show zp_fd 92 22 = some (12, 2, 67, 0, 0) from rfl) rfl hp (fun hk22 => ?_)
  obtain ⟨b22, hb22, hq22⟩ := zp_this hk22
  refine zp_kn (k := 24) (a := a) hw (show zp_fd 92 24 = some (12, 2, 68, 0, 0) from rfl) rfl hp (fun hk24 => ?_)
  obtain ⟨b24, hb24, hq24⟩ := zp_this hk24
  refine zp_kn (k := 25) (a := a) hw (show zp_fd 92 25 = some (12, 2, 69, 0, 0) from rfl) rfl hp (fun hk25 => ?_)
  obtain ⟨b25, hb25, hq25⟩ := zp_this hk25
  refine zp_kn (k := 27) (a := a) hw (show zp_fd 92 27 = some (12, 2, 70, 0, 0) from rfl) rfl hp (fun hk27 => ?_)
  obtain ⟨b27, hb27, hq27⟩ := zp_this hk27
  refine zp_kn (k := 28) (a := a) hw (show zp_fd 92 28 = some (12, 2, 71, 0, 0) from rfl) rfl hp (fun hk28 => ?_)
  obtain ⟨b28, hb28, hq28⟩ := zp_this hk28
  refine zp_kx hw hq3 zl_T59 rfl (fun hkx => ?_)
  obtain ⟨f0, hf0, hxi⟩ := hkx
  have hlaws : zk_laws f0 0 := hxi.1 rfl
  have hf0 : ∀ j, j < 5580 → f0 j = zp_n u.2.1 b3 (2000 + j) := hf0
  refine zp_kaT hw hq3 zl_T59 rfl zl_kd (fun hka => ?_)
  have hka : ∀ j, j < 5580 → zk_ok u.1 (zk_fj zl_T j) (zp_n u.2.1 b3 (2000 + j)) := hka
  have hk3 : 0 ≤ zp_n u.2.1 b3 (2000 + 3) ∧ zp_n u.2.1 b3 (2000 + 3) ≤ 6 := by
    have h := hka 3 (by decide)
    rw [zl_f3] at h
    exact zp_int h
  obtain ⟨nl, hnl⟩ := zp_nat hk3.1
  rw [hnl] at hk3
  have hv3 : zv (zp_n u.2.1) a 3 3 = (nl : Int) := (zv_eq hb3 3).trans hnl
  have loop2 : ∀ (n k : Nat) (Ge G : Nat → Nat → Int) (ncl nc : Nat), nc - k < n → k ≤ nc → nl < 6 → Ge a 3 = (b3 : Int) → Ge a 22 = (b22 : Int) → Ge a 24 = (b24 : Int) → Ge a 25 = (b25 : Int) → Ge a 20 = 0 → Ge a 21 = (ncl : Int) → ncl ≤ 12 → Ge a 23 = (nc : Int) → nc ≤ 400 → (Ge a 13 = 0 ∧ 0 ≤ Ge a 30 ∧ Ge a 18 = -1) → (∃ L : List yK, yT (zy_so B ln) (zy_wo B ln) (zy_to B ln) (yt_cl (zy_so B ln) (zy_wo B ln) (zy_to B ln) (ylf false B ln)) 12 0 0 (Sum.inr L) ∧ L.length = ncl ∧ zLs (zv Ge a 22) (zv Ge a 24) (zv Ge a 25) nc 0 L) → (∀ k, G b2 k = zp_n u.2.1 b2 k) → Ge a 2 = (b2 : Int) → (∀ k, G a k = Ge a k) → (∀ k, G b22 k = Ge b22 k) → (∀ k, G b24 k = Ge b24 k) → (∀ k, G b25 k = Ge b25 k) → (∀ j, j < 900 * nl + 181 ∨ 900 * nl + 1080 ≤ j → G b3 (2000 + j) = zp_n u.2.1 b3 (2000 + j)) → G b3 (2000 + (900 * nl + 181)) = (ncl : Int) → (∀ j, j < 8 * ncl → G b3 (2000 + (900 * nl + 182 + j)) = Ge b22 (2000 + j)) → (∀ q, q < k → G b3 (2000 + (900 * nl + 278 + 2 * q)) = Ge b24 (2000 + q) ∧ G b3 (2000 + (900 * nl + 278 + 2 * q + 1)) = Ge b25 (2000 + q)) → zp_J p l e R s m args below meth c Q w u [b3] 146 [(2, 0, (k : Int)), (1, 0, (900 * (nl : Int) + 180)), (0, 2, (a : Int))] [] u.1 G := by
    intro n
    induction n with
    | zero => intro k Ge G ncl nc h; exact absurd h (Nat.not_lt_zero _)
    | succ n ih =>
      intro k Ge G ncl nc hn hk hnl6 e3 e22 e24 e25 e20 e21 hncl e23 hnc eoth hL z2 g2 za z22 z24 z25 r0 r1 r2 r3
      have hok : ∀ c, c < ncl → zl_ok a Ge c := fun c hc => by
        obtain ⟨L, -, hLl, hLs⟩ := hL
        obtain ⟨K, hK⟩ := zLs_len hLs (by omega : c < L.length)
        exact zLc_ok hK e23
      refine zp_load (pc := 146) hx hb (zd_X12_law (146, .iload_n 2, 1, 0, []) (List.mem_of_getElem? (i := 83) rfl)) rfl (j := 0) rfl ?_
      refine zp_load (pc := 147) hx hb (zd_X12_law (147, .aload_n 0, 1, 0, []) (List.mem_of_getElem? (i := 84) rfl)) rfl (j := 2) rfl ?_
      refine zp_getf (n := (nc : Int)) (pc := 148) hx hb hE hw (zd_X12_law (148, .getfield 279, 3, 0, []) (List.mem_of_getElem? (i := 85) rfl)) (j := 41) rfl rfl rfl hp ((za 23).trans e23) ?_
      refine zp_icmp (pc := 151) (tgt := 200) hx hb (zd_X12_law (151, .if_icmp .ge 49, 3, 0, []) (List.mem_of_getElem? (i := 86) rfl)) rfl (fun (hcq60 : (nc : Int) ≤ (k : Int)) => ?_) (fun (hcq60 : ¬ ((nc : Int) ≤ (k : Int))) => ?_)
      · refine zp_load (pc := 200) hx hb (zd_X12_law (200, .aload_n 0, 1, 0, []) (List.mem_of_getElem? (i := 119) rfl)) rfl (j := 2) rfl ?_
        refine zp_getf (n := (b3 : Int)) (pc := 201) hx hb hE hw (zd_X12_law (201, .getfield 13, 3, 0, []) (List.mem_of_getElem? (i := 120) rfl)) (j := 21) rfl rfl rfl hp ((za 3).trans e3) ?_
        refine zp_const (pc := 204) hx hb (zd_X12_law (204, .iconst 3, 1, 0, []) (List.mem_of_getElem? (i := 121) rfl)) rfl rfl ?_
        refine zp_dup2 (pc := 205) hx hb (zd_X12_law (205, .dup2, 1, 0, []) (List.mem_of_getElem? (i := 122) rfl)) (show (0 : Nat) ≠ 1 by decide) (show (2 : Nat) ≠ 1 by decide) ?_
        refine zp_ialdT (j := 3) (v := (nl : Int)) (pc := 206) hx hb hw (zd_X12_law (206, .iaload, 1, 0, []) (List.mem_of_getElem? (i := 123) rfl)) zl_T59 rfl (zl_kd 3) hq3 rfl (show 3 < 5580 by decide) ((r0 3 (by omega)).trans hnl) (fun hk61 => ?_)
        rw [zl_f3] at hk61
        have hk61b := zp_int hk61
        refine zp_const (pc := 207) hx hb (zd_X12_law (207, .iconst 1, 1, 0, []) (List.mem_of_getElem? (i := 124) rfl)) rfl rfl ?_
        refine zp_add (n := ((nl : Int) + 1)) (pc := 208) hx hb (zd_X12_law (208, .iadd, 1, 0, []) (List.mem_of_getElem? (i := 125) rfl)) (by omega) (zp_r0 (by omega) (by omega)) ?_
        have hst : zk_ok u.1 (zk_fj zl_T 3) ((nl : Int) + 1) := by
          rw [zl_f3]
          exact zp_o0 (by omega) (by omega) (by omega) (by omega)
        refine zp_iastU (j := 3) (pc := 209) hx hb hw heff (zd_X12_law (209, .iastore, 1, 0, []) (List.mem_of_getElem? (i := 126) rfl)) zl_T59 rfl (zl_kd _) hq3 (by omega) (show 3 < 5580 by omega) (by omega) hst (Or.inl (List.mem_singleton.mpr rfl)) ⟨3771, rfl, by unfold zk_pm zk_er; decide⟩ ?_
        have hkn : k = nc := by omega
        refine zp_strong hw hq3 zl_T59 rfl (fun f hf => ⟨fun _ => ?_, fun z => absurd z (by decide)⟩) ?_
        · have hf : ∀ j, j < 5580 → f j = (zp_set G b3 (2000 + 3) ((nl : Int) + 1)) b3 (2000 + j) := hf
          intro k2 hk2
          show zk_law f (0 + 180 + 900 * k2)
          rw [Nat.zero_add]
          by_cases hkl : k2 = nl
          · subst hkl
            refine zl_new (ncl := ncl) (G := Ge) hk2 hok (by omega) ?_ (fun j hj => ?_) (fun q hq => ⟨?_, ?_⟩)
            · rw [hf _ (by omega), zp_set_ne (Or.inr (by omega)), ← r1]; congr 1; omega
            · rw [hf _ (by omega), zp_set_ne (Or.inr (by omega)), zv_eq e22, ← r2 j hj]; congr 1; omega
            · rw [hf _ (by omega), zp_set_ne (Or.inr (by omega)), zv_eq e24, ← (r3 q (by omega)).1]; congr 1; omega
            · rw [hf _ (by omega), zp_set_ne (Or.inr (by omega)), zv_eq e25, ← (r3 q (by omega)).2]; congr 1; omega
          · have hl0 := hlaws k2 hk2
            rw [Nat.zero_add] at hl0
            refine zl_congr hl0 (fun j hj => ?_) (fun c hc j j1 j2 => ?_)
            · rw [hf _ (by omega), zp_set_ne (Or.inr (by omega)), r0 _ (by omega), hf0 _ (by omega)]
            · obtain ⟨x, lo, hi, y1, y2, -⟩ := zl_rg3 hk2 hc (j := j) (by omega)
              have hb := hka (180 + 900 * k2 + 2 + (8 * c + j)) (by omega)
              rw [y1] at hb
              have hb2 := (zp_int hb).2
              have hy := (y2 j1 j2).2
              rw [hf0 _ (by omega), show 180 + 900 * k2 + 2 + 8 * c + j = 180 + 900 * k2 + 2 + (8 * c + j) by omega]
              omega
        refine zp_load (pc := 210) hx hb (zd_X12_law (210, .aload_n 0, 1, 0, []) (List.mem_of_getElem? (i := 127) rfl)) rfl (j := 2) rfl ?_
        refine zp_load (pc := 211) hx hb (zd_X12_law (211, .aload_n 0, 1, 0, []) (List.mem_of_getElem? (i := 128) rfl)) rfl (j := 2) rfl ?_
        refine zp_getf (n := (b3 : Int)) (pc := 212) hx hb hE hw (zd_X12_law (212, .getfield 13, 3, 0, []) (List.mem_of_getElem? (i := 129) rfl)) (j := 21) rfl rfl rfl hp ((zp_set_ne (Or.inl (zp_pne hp hq3 (by decide)))).trans (((za 3).trans e3))) ?_
        refine zp_const (pc := 215) hx hb (zd_X12_law (215, .iconst 3, 1, 0, []) (List.mem_of_getElem? (i := 130) rfl)) rfl rfl ?_
        refine zp_ialdT (j := 3) (v := ((nl : Int) + 1)) (pc := 216) hx hb hw (zd_X12_law (216, .iaload, 1, 0, []) (List.mem_of_getElem? (i := 131) rfl)) zl_T59 rfl (zl_kd 3) hq3 rfl (show 3 < 5580 by decide) zp_set_self (fun hk62 => ?_)
        rw [zl_f3] at hk62
        have hk62b := zp_int hk62
        refine zp_const (pc := 217) hx hb (zd_X12_law (217, .iconst 1, 1, 0, []) (List.mem_of_getElem? (i := 132) rfl)) rfl rfl ?_
        refine zp_sub (n := (nl : Int)) (pc := 218) hx hb (zd_X12_law (218, .isub, 1, 0, []) (List.mem_of_getElem? (i := 133) rfl)) (by omega) (zp_r0 (by omega) (by omega)) ?_
        refine zp_call (pc := 219) (how := 0) (idx := 170) (mi := 183) (S := []) hx hb hE hw heff hrm (zX_tlx hW (zA2 a b2) (fun o k => (zp_set G b3 (2000 + 3) ((nl : Int) + 1)) (zA2 a b2 o) k)) rfl (j := 0) rfl rfl (by decide +kernel) (zd_X12_law (219, .invokevirtual 170, 3, 0, []) (List.mem_of_getElem? (i := 134) rfl)) [(a : Int), (nl : Int)] rfl ⟨zp_o2 hp, zp_o0 (by omega) (by omega) (by omega) (by omega), trivial⟩ (Nat.le_of_ble_eq_true rfl) ⟨zt_zM hp hq2 ((zp_set_ne (Or.inl (zp_pne hp hq3 (by decide)))).trans (((za 2).trans g2))), rfl, (show (-6 : Int) ≤ (nl : Int) by omega)⟩ (fun al hal rnt Pt Gt hextt hfrt hokt hcst hpsit => ?_)
        obtain rfl := List.mem_singleton.mp hal
        have hrt := zp_int (hokt _ rfl).1
        obtain ⟨rfl, Mqt, hMqt, hTqt, hrnt⟩ := hpsit
        have hrnt : rnt = (nl : Int) := hrnt
        have hstt : zDts a b2 (zp_set G b3 (2000 + 3) ((nl : Int) + 1)) Gt (nl : Int) := zt_ts hMqt hTqt
        refine zp_iret (pc := 222) (n := rnt) hx hb hE hQ hU5 rfl (by decide) (zd_X12_law (222, .ireturn, 1, 0, []) (List.mem_of_getElem? (i := 135) rfl)) (j := 0) rfl (zp_o0 (by omega) (by omega) (by omega) (by omega)) ?_
        rw [hps]
        refine ⟨rfl, ⟨((zp_nf hfrt hp rfl).trans ((zp_set_ne (Or.inl (zp_pne hp hq3 (by decide)))).trans (za 13))).trans eoth.1, ?_, ((zp_nf hfrt hp rfl).trans ((zp_set_ne (Or.inl (zp_pne hp hq3 (by decide)))).trans (za 20))).trans e20, fun z => absurd (hv3.symm.trans z) (by omega), fun _ => ?_⟩, fun b9 hb9 hq9 => ?_⟩
        · show 0 ≤ Gt a 30
          rw [(zp_nf hfrt hp rfl).trans ((zp_set_ne (Or.inl (zp_pne hp hq3 (by decide)))).trans (za 30))]
          exact eoth.2.1
        · obtain ⟨L, hL1, hL2, hL3⟩ := hL
          refine ⟨Sum.inr L, hL1, Or.inr ⟨L, nl, rfl, hnl6, hv3, hrnt.trans (by omega), ((zp_nf hfrt hp rfl).trans ((zp_set_ne (Or.inl (zp_pne hp hq3 (by decide)))).trans (za 18))).trans eoth.2.2, ?_, fun j hj h3 hjr => ?_, ?_⟩⟩
          · show zv Gt a 3 3 = _
            rw [zv_eq (((zp_nf hfrt hp rfl).trans ((zp_set_ne (Or.inl (zp_pne hp hq3 (by decide)))).trans (za 3))).trans e3), zp_nc hfrt hq3 rfl]
            exact zp_set_eq rfl rfl
          · show zv Gt a 3 j = zv (zp_n u.2.1) a 3 j
            rw [zv_eq (((zp_nf hfrt hp rfl).trans ((zp_set_ne (Or.inl (zp_pne hp hq3 (by decide)))).trans (za 3))).trans e3), zv_eq hb3, zp_nc hfrt hq3 rfl]
            exact (zp_set_ne (Or.inr (by omega))).trans (r0 j (by omega))
          · have hR : ∀ j, j ≠ 3 → zv Gt a 3 j = G b3 (2000 + j) := fun j hj => by
              rw [zv_eq (((zp_nf hfrt hp rfl).trans ((zp_set_ne (Or.inl (zp_pne hp hq3 (by decide)))).trans (za 3))).trans e3), zp_nc hfrt hq3 rfl]
              exact zp_set_ne (Or.inr (by omega))
            refine ⟨by omega, ?_, ?_⟩
            · show zv Gt a 3 (180 + 900 * nl + 1) = _
              rw [hR _ (by omega), show 180 + 900 * nl + 1 = 900 * nl + 181 by omega, r1]
              omega
            · refine zLs_c (N := nc) (by omega) (fun j hj => ⟨?_, ?_⟩) hL3 (fun j j1 j2 => ?_)
              · show zv Gt a 3 (180 + 900 * nl + 98 + 2 * j) = _
                rw [hR _ (by omega), show 180 + 900 * nl + 98 + 2 * j = 900 * nl + 278 + 2 * j by omega, (r3 j (by omega)).1, ← zv_eq e24]
              · show zv Gt a 3 (180 + 900 * nl + 98 + 2 * j + 1) = _
                rw [hR _ (by omega), show 180 + 900 * nl + 98 + 2 * j + 1 = 900 * nl + 278 + 2 * j + 1 by omega, (r3 j (by omega)).2, ← zv_eq e25]
              · show zv Gt a 3 (180 + 900 * nl + 2 + j) = _
                rw [hR _ (by omega), show 180 + 900 * nl + 2 + j = 900 * nl + 182 + j by omega, r2 j (by omega), ← zv_eq e22]
        · have hb9 : zp_n u.2.1 a 2 = (b9 : Int) := hb9
          obtain rfl : b9 = b2 := by omega
          exact zt_dts hstt (fun k => (zp_set_ne (Or.inl (zp_pne hq2 hq3 (by decide)))).trans (z2 k)) hrnt
      · refine zp_load (pc := 154) hx hb (zd_X12_law (154, .aload_n 0, 1, 0, []) (List.mem_of_getElem? (i := 87) rfl)) rfl (j := 2) rfl ?_
        refine zp_getf (n := (b3 : Int)) (pc := 155) hx hb hE hw (zd_X12_law (155, .getfield 13, 3, 0, []) (List.mem_of_getElem? (i := 88) rfl)) (j := 21) rfl rfl rfl hp ((za 3).trans e3) ?_
        refine zp_load (pc := 158) hx hb (zd_X12_law (158, .iload_n 1, 1, 0, []) (List.mem_of_getElem? (i := 89) rfl)) rfl (j := 1) rfl ?_
        refine zp_const (pc := 159) hx hb (zd_X12_law (159, .bipush 98, 2, 0, []) (List.mem_of_getElem? (i := 90) rfl)) rfl rfl ?_
        refine zp_add (n := (900 * (nl : Int) + 278)) (pc := 161) hx hb (zd_X12_law (161, .iadd, 1, 0, []) (List.mem_of_getElem? (i := 91) rfl)) (by omega) (zp_r0 (by omega) (by omega)) ?_
        refine zp_const (pc := 162) hx hb (zd_X12_law (162, .iconst 2, 1, 0, []) (List.mem_of_getElem? (i := 92) rfl)) rfl rfl ?_
        refine zp_load (pc := 163) hx hb (zd_X12_law (163, .iload_n 2, 1, 0, []) (List.mem_of_getElem? (i := 93) rfl)) rfl (j := 0) rfl ?_
        refine zp_mul (n := (2 * (k : Int))) (pc := 164) hx hb (zd_X12_law (164, .imul, 1, 0, []) (List.mem_of_getElem? (i := 94) rfl)) (by omega) (zp_r0 (by omega) (by omega)) ?_
        refine zp_add (n := (900 * (nl : Int) + 2 * (k : Int) + 278)) (pc := 165) hx hb (zd_X12_law (165, .iadd, 1, 0, []) (List.mem_of_getElem? (i := 95) rfl)) (by omega) (zp_r0 (by omega) (by omega)) ?_
        refine zp_load (pc := 166) hx hb (zd_X12_law (166, .aload_n 0, 1, 0, []) (List.mem_of_getElem? (i := 96) rfl)) rfl (j := 2) rfl ?_
        refine zp_getf (n := (b24 : Int)) (pc := 167) hx hb hE hw (zd_X12_law (167, .getfield 45, 3, 0, []) (List.mem_of_getElem? (i := 97) rfl)) (j := 42) rfl rfl rfl hp ((za 24).trans e24) ?_
        refine zp_load (pc := 170) hx hb (zd_X12_law (170, .iload_n 2, 1, 0, []) (List.mem_of_getElem? (i := 98) rfl)) rfl (j := 0) rfl ?_
        refine zp_iald (j := k) (v := (G b24 (2000 + k))) (pc := 171) hx hb hw (zd_X12_law (171, .iaload, 1, 0, []) (List.mem_of_getElem? (i := 99) rfl)) (show zp_ia 1 68 = some (400, 0, 0, (-2147483648), 2147483647) from rfl) hq24 (by omega) (by omega) rfl (fun hk63 => ?_)
        have hk63b := zp_int hk63
        have hst : zk_ok u.1 (zk_fj zl_T (900 * nl + 2 * k + 278)) (G b24 (2000 + k)) := by
          obtain ⟨x, hx0⟩ := zl_rg2 hnl6 (j := 98 + 2 * k) (by omega) (by omega)
          rw [show (900 * nl + 2 * k + 278) = 180 + 900 * nl + (98 + 2 * k) by omega, hx0]
          exact zp_o0 (by omega) (by omega) (by omega) (by omega)
        refine zp_iastU (j := (900 * nl + 2 * k + 278)) (pc := 172) hx hb hw heff (zd_X12_law (172, .iastore, 1, 0, []) (List.mem_of_getElem? (i := 100) rfl)) zl_T59 rfl (zl_kd _) hq3 (by omega) (show (900 * nl + 2 * k + 278) < 5580 by omega) (by omega) hst (Or.inl (List.mem_singleton.mpr rfl)) ⟨1003, rfl, zp_1003 (by omega) (by omega)⟩ ?_
        refine zp_load (pc := 173) hx hb (zd_X12_law (173, .aload_n 0, 1, 0, []) (List.mem_of_getElem? (i := 101) rfl)) rfl (j := 2) rfl ?_
        refine zp_getf (n := (b3 : Int)) (pc := 174) hx hb hE hw (zd_X12_law (174, .getfield 13, 3, 0, []) (List.mem_of_getElem? (i := 102) rfl)) (j := 21) rfl rfl rfl hp ((zp_set_ne (Or.inl (zp_pne hp hq3 (by decide)))).trans (((za 3).trans e3))) ?_
        refine zp_load (pc := 177) hx hb (zd_X12_law (177, .iload_n 1, 1, 0, []) (List.mem_of_getElem? (i := 103) rfl)) rfl (j := 1) rfl ?_
        refine zp_const (pc := 178) hx hb (zd_X12_law (178, .bipush 98, 2, 0, []) (List.mem_of_getElem? (i := 104) rfl)) rfl rfl ?_
        refine zp_add (n := (900 * (nl : Int) + 278)) (pc := 180) hx hb (zd_X12_law (180, .iadd, 1, 0, []) (List.mem_of_getElem? (i := 105) rfl)) (by omega) (zp_r0 (by omega) (by omega)) ?_
        refine zp_const (pc := 181) hx hb (zd_X12_law (181, .iconst 2, 1, 0, []) (List.mem_of_getElem? (i := 106) rfl)) rfl rfl ?_
        refine zp_load (pc := 182) hx hb (zd_X12_law (182, .iload_n 2, 1, 0, []) (List.mem_of_getElem? (i := 107) rfl)) rfl (j := 0) rfl ?_
        refine zp_mul (n := (2 * (k : Int))) (pc := 183) hx hb (zd_X12_law (183, .imul, 1, 0, []) (List.mem_of_getElem? (i := 108) rfl)) (by omega) (zp_r0 (by omega) (by omega)) ?_
        refine zp_add (n := (900 * (nl : Int) + 2 * (k : Int) + 278)) (pc := 184) hx hb (zd_X12_law (184, .iadd, 1, 0, []) (List.mem_of_getElem? (i := 109) rfl)) (by omega) (zp_r0 (by omega) (by omega)) ?_
        refine zp_const (pc := 185) hx hb (zd_X12_law (185, .iconst 1, 1, 0, []) (List.mem_of_getElem? (i := 110) rfl)) rfl rfl ?_
        refine zp_add (n := (900 * (nl : Int) + 2 * (k : Int) + 279)) (pc := 186) hx hb (zd_X12_law (186, .iadd, 1, 0, []) (List.mem_of_getElem? (i := 111) rfl)) (by omega) (zp_r0 (by omega) (by omega)) ?_
        refine zp_load (pc := 187) hx hb (zd_X12_law (187, .aload_n 0, 1, 0, []) (List.mem_of_getElem? (i := 112) rfl)) rfl (j := 2) rfl ?_
        refine zp_getf (n := (b25 : Int)) (pc := 188) hx hb hE hw (zd_X12_law (188, .getfield 48, 3, 0, []) (List.mem_of_getElem? (i := 113) rfl)) (j := 43) rfl rfl rfl hp ((zp_set_ne (Or.inl (zp_pne hp hq3 (by decide)))).trans (((za 25).trans e25))) ?_
        refine zp_load (pc := 191) hx hb (zd_X12_law (191, .iload_n 2, 1, 0, []) (List.mem_of_getElem? (i := 114) rfl)) rfl (j := 0) rfl ?_
        refine zp_iald (j := k) (v := (G b25 (2000 + k))) (pc := 192) hx hb hw (zd_X12_law (192, .iaload, 1, 0, []) (List.mem_of_getElem? (i := 115) rfl)) (show zp_ia 1 69 = some (400, 0, 0, (-2147483648), 2147483647) from rfl) hq25 (by omega) (by omega) ((zp_set_ne (Or.inl (zp_pne hq25 hq3 (by decide))))) (fun hk64 => ?_)
        have hk64b := zp_int hk64
        have hst : zk_ok u.1 (zk_fj zl_T (900 * nl + 2 * k + 279)) (G b25 (2000 + k)) := by
          obtain ⟨x, hx0⟩ := zl_rg2 hnl6 (j := 98 + 2 * k + 1) (by omega) (by omega)
          rw [show (900 * nl + 2 * k + 279) = 180 + 900 * nl + (98 + 2 * k + 1) by omega, hx0]
          exact zp_o0 (by omega) (by omega) (by omega) (by omega)
        refine zp_iastU (j := (900 * nl + 2 * k + 279)) (pc := 193) hx hb hw heff (zd_X12_law (193, .iastore, 1, 0, []) (List.mem_of_getElem? (i := 116) rfl)) zl_T59 rfl (zl_kd _) hq3 (by omega) (show (900 * nl + 2 * k + 279) < 5580 by omega) (by omega) hst (Or.inl (List.mem_singleton.mpr rfl)) ⟨1003, rfl, zp_1003 (by omega) (by omega)⟩ ?_
        refine zp_iinc (L' := [(2, 0, ((k : Int) + 1)), (1, 0, (900 * (nl : Int) + 180)), (0, 2, (a : Int))]) (n := ((k : Int) + 1)) (pc := 194) hx hb hnL (zd_X12_law (194, .iinc 2 1, 3, 0, []) (List.mem_of_getElem? (i := 117) rfl)) (j := 0) rfl (by omega) (zp_r0 (by omega) (by omega)) rfl rfl ?_
        refine zp_goto (tgt := 146) (pc := 197) hx hb (zd_X12_law (197, .goto (-51), 3, 0, []) (List.mem_of_getElem? (i := 118) rfl)) rfl ?_
        refine ih (k + 1) Ge _ ncl nc (by omega) (by omega) hnl6 e3 e22 e24 e25 e20 e21 hncl e23 hnc eoth hL (fun k => ((zp_set_ne (Or.inl (zp_pne hq2 hq3 (by decide)))).trans (zp_set_ne (Or.inl (zp_pne hq2 hq3 (by decide))))).trans (z2 k)) g2 (fun k => ((zp_set_ne (Or.inl (zp_pne hp hq3 (by decide)))).trans (zp_set_ne (Or.inl (zp_pne hp hq3 (by decide))))).trans (za k)) (fun k => ((zp_set_ne (Or.inl (zp_pne hq22 hq3 (by decide)))).trans (zp_set_ne (Or.inl (zp_pne hq22 hq3 (by decide))))).trans (z22 k)) (fun k => ((zp_set_ne (Or.inl (zp_pne hq24 hq3 (by decide)))).trans (zp_set_ne (Or.inl (zp_pne hq24 hq3 (by decide))))).trans (z24 k)) (fun k => ((zp_set_ne (Or.inl (zp_pne hq25 hq3 (by decide)))).trans (zp_set_ne (Or.inl (zp_pne hq25 hq3 (by decide))))).trans (z25 k)) (fun j hj => ((zp_set_ne (Or.inr (by omega))).trans (zp_set_ne (Or.inr (by omega)))).trans (r0 j hj)) (((zp_set_ne (Or.inr (by omega))).trans (zp_set_ne (Or.inr (by omega)))).trans r1) (fun j hj => ((zp_set_ne (Or.inr (by omega))).trans (zp_set_ne (Or.inr (by omega)))).trans (r2 j hj)) (fun q hq => ?_)
        by_cases hqk : q = k
        · subst hqk
          exact ⟨((zp_set_ne (Or.inr (by omega))).trans (zp_set_eq rfl (by omega))).trans (z24 _), (zp_set_eq rfl (by omega)).trans (rfl.trans (z25 _))⟩
        · exact ⟨((zp_set_ne (Or.inr (by omega))).trans (zp_set_ne (Or.inr (by omega)))).trans (r3 q (by omega)).1, ((zp_set_ne (Or.inr (by omega))).trans (zp_set_ne (Or.inr (by omega)))).trans (r3 q (by omega)).2⟩
  have loop1 : ∀ (n i : Nat) (Ge G : Nat → Nat → Int) (ncl nc : Nat), 8 * ncl - i < n → i ≤ 8 * ncl → nl < 6 → Ge a 3 = (b3 : Int) → Ge a 22 = (b22 : Int) → Ge a 24 = (b24 : Int) → Ge a 25 = (b25 : Int) → Ge a 20 = 0 → Ge a 21 = (ncl : Int) → ncl ≤ 12 → Ge a 23 = (nc : Int) → nc ≤ 400 → (Ge a 13 = 0 ∧ 0 ≤ Ge a 30 ∧ Ge a 18 = -1) → (∃ L : List yK, yT (zy_so B ln) (zy_wo B ln) (zy_to B ln) (yt_cl (zy_so B ln) (zy_wo B ln) (zy_to B ln) (ylf false B ln)) 12 0 0 (Sum.inr L) ∧ L.length = ncl ∧ zLs (zv Ge a 22) (zv Ge a 24) (zv Ge a 25) nc 0 L) → (∀ k, G b2 k = zp_n u.2.1 b2 k) → Ge a 2 = (b2 : Int) → (∀ k, G a k = Ge a k) → (∀ k, G b22 k = Ge b22 k) → (∀ k, G b24 k = Ge b24 k) → (∀ k, G b25 k = Ge b25 k) → (∀ j, j < 900 * nl + 181 ∨ 900 * nl + 182 + i ≤ j → G b3 (2000 + j) = zp_n u.2.1 b3 (2000 + j)) → G b3 (2000 + (900 * nl + 181)) = (ncl : Int) → (∀ j, j < i → G b3 (2000 + (900 * nl + 182 + j)) = Ge b22 (2000 + j)) → zp_J p l e R s m args below meth c Q w u [b3] 111 [(2, 0, (i : Int)), (1, 0, (900 * (nl : Int) + 180)), (0, 2, (a : Int))] [] u.1 G := by
    intro n
    induction n with
    | zero => intro i Ge G ncl nc h; exact absurd h (Nat.not_lt_zero _)
    | succ n ih =>
      intro i Ge G ncl nc hn hk hnl6 e3 e22 e24 e25 e20 e21 hncl e23 hnc eoth hL z2 g2 za z22 z24 z25 r0 r1 r2
      have hok : ∀ c, c < ncl → zl_ok a Ge c := fun c hc => by
        obtain ⟨L, -, hLl, hLs⟩ := hL
        obtain ⟨K, hK⟩ := zLs_len hLs (by omega : c < L.length)
        exact zLc_ok hK e23
      refine zp_load (pc := 111) hx hb (zd_X12_law (111, .iload_n 2, 1, 0, []) (List.mem_of_getElem? (i := 61) rfl)) rfl (j := 0) rfl ?_
      refine zp_const (pc := 112) hx hb (zd_X12_law (112, .bipush 8, 2, 0, []) (List.mem_of_getElem? (i := 62) rfl)) rfl rfl ?_
      refine zp_load (pc := 114) hx hb (zd_X12_law (114, .aload_n 0, 1, 0, []) (List.mem_of_getElem? (i := 63) rfl)) rfl (j := 2) rfl ?_
      refine zp_getf (n := (ncl : Int)) (pc := 115) hx hb hE hw (zd_X12_law (115, .getfield 371, 3, 0, []) (List.mem_of_getElem? (i := 64) rfl)) (j := 39) rfl rfl rfl hp ((za 21).trans e21) ?_
      refine zp_mul (n := (8 * (ncl : Int))) (pc := 118) hx hb (zd_X12_law (118, .imul, 1, 0, []) (List.mem_of_getElem? (i := 65) rfl)) (by omega) (zp_r0 (by omega) (by omega)) ?_
      refine zp_icmp (pc := 119) (tgt := 144) hx hb (zd_X12_law (119, .if_icmp .ge 25, 3, 0, []) (List.mem_of_getElem? (i := 66) rfl)) rfl (fun (hcq65 : (8 * (ncl : Int)) ≤ (i : Int)) => ?_) (fun (hcq65 : ¬ ((8 * (ncl : Int)) ≤ (i : Int))) => ?_)
      · refine zp_const (pc := 144) hx hb (zd_X12_law (144, .iconst 0, 1, 0, []) (List.mem_of_getElem? (i := 81) rfl)) rfl rfl ?_
        refine zp_store (L' := [(2, 0, 0), (1, 0, (900 * (nl : Int) + 180)), (0, 2, (a : Int))]) (pc := 145) hx hb hnL (zd_X12_law (145, .istore_n 2, 1, 0, []) (List.mem_of_getElem? (i := 82) rfl)) rfl rfl rfl ?_
        have hin : i = 8 * ncl := by omega
        exact loop2 (nc + 1) 0 Ge G ncl nc (by omega) (by omega) hnl6 e3 e22 e24 e25 e20 e21 hncl e23 hnc eoth hL z2 g2 za z22 z24 z25 (fun j hj => r0 j (by omega)) r1 (fun j hj => r2 j (by omega)) (fun q hq => absurd hq (Nat.not_lt_zero q))
      · refine zp_load (pc := 122) hx hb (zd_X12_law (122, .aload_n 0, 1, 0, []) (List.mem_of_getElem? (i := 67) rfl)) rfl (j := 2) rfl ?_
        refine zp_getf (n := (b3 : Int)) (pc := 123) hx hb hE hw (zd_X12_law (123, .getfield 13, 3, 0, []) (List.mem_of_getElem? (i := 68) rfl)) (j := 21) rfl rfl rfl hp ((za 3).trans e3) ?_
        refine zp_load (pc := 126) hx hb (zd_X12_law (126, .iload_n 1, 1, 0, []) (List.mem_of_getElem? (i := 69) rfl)) rfl (j := 1) rfl ?_
        refine zp_const (pc := 127) hx hb (zd_X12_law (127, .iconst 2, 1, 0, []) (List.mem_of_getElem? (i := 70) rfl)) rfl rfl ?_
        refine zp_add (n := (900 * (nl : Int) + 182)) (pc := 128) hx hb (zd_X12_law (128, .iadd, 1, 0, []) (List.mem_of_getElem? (i := 71) rfl)) (by omega) (zp_r0 (by omega) (by omega)) ?_
        refine zp_load (pc := 129) hx hb (zd_X12_law (129, .iload_n 2, 1, 0, []) (List.mem_of_getElem? (i := 72) rfl)) rfl (j := 0) rfl ?_
        refine zp_add (n := (900 * (nl : Int) + (i : Int) + 182)) (pc := 130) hx hb (zd_X12_law (130, .iadd, 1, 0, []) (List.mem_of_getElem? (i := 73) rfl)) (by omega) (zp_r0 (by omega) (by omega)) ?_
        refine zp_load (pc := 131) hx hb (zd_X12_law (131, .aload_n 0, 1, 0, []) (List.mem_of_getElem? (i := 74) rfl)) rfl (j := 2) rfl ?_
        refine zp_getf (n := (b22 : Int)) (pc := 132) hx hb hE hw (zd_X12_law (132, .getfield 42, 3, 0, []) (List.mem_of_getElem? (i := 75) rfl)) (j := 40) rfl rfl rfl hp ((za 22).trans e22) ?_
        refine zp_load (pc := 135) hx hb (zd_X12_law (135, .iload_n 2, 1, 0, []) (List.mem_of_getElem? (i := 76) rfl)) rfl (j := 0) rfl ?_
        refine zp_iald (j := i) (v := (G b22 (2000 + i))) (pc := 136) hx hb hw (zd_X12_law (136, .iaload, 1, 0, []) (List.mem_of_getElem? (i := 77) rfl)) (show zp_ia 1 67 = some (96, 0, 0, (-2147483648), 2147483647) from rfl) hq22 (by omega) (by omega) rfl (fun hk66 => ?_)
        have hk66b := zp_int hk66
        have hst : zk_ok u.1 (zk_fj zl_T (900 * nl + i + 182)) (G b22 (2000 + i)) := by
          obtain ⟨x, lo, hi, y1, y2, y3⟩ := zl_rg3 (c := i / 8) (j := i % 8) hnl6 (by omega) (by omega)
          rw [show (900 * nl + i + 182) = 180 + 900 * nl + 2 + (8 * (i / 8) + i % 8) by omega, y1]
          by_cases h36 : 3 ≤ i % 8 ∧ i % 8 ≤ 6
          · obtain ⟨rfl, rfl⟩ := y2 h36.1 h36.2
            have hb := (hok (i / 8) (by omega)).1 (i % 8) h36.1 h36.2
            rw [show 8 * (i / 8) + i % 8 = i by omega, zv_eq e22, ← z22] at hb
            exact zp_o0 (by omega) (by omega) (by omega) (by omega)
          · obtain ⟨rfl, rfl⟩ := y3 (by omega)
            exact zp_o0 (by omega) (by omega) (by omega) (by omega)
        refine zp_iastU (j := (900 * nl + i + 182)) (pc := 137) hx hb hw heff (zd_X12_law (137, .iastore, 1, 0, []) (List.mem_of_getElem? (i := 78) rfl)) zl_T59 rfl (zl_kd _) hq3 (by omega) (show (900 * nl + i + 182) < 5580 by omega) (by omega) hst (Or.inl (List.mem_singleton.mpr rfl)) ⟨1003, rfl, zp_1003 (by omega) (by omega)⟩ ?_
        refine zp_iinc (L' := [(2, 0, ((i : Int) + 1)), (1, 0, (900 * (nl : Int) + 180)), (0, 2, (a : Int))]) (n := ((i : Int) + 1)) (pc := 138) hx hb hnL (zd_X12_law (138, .iinc 2 1, 3, 0, []) (List.mem_of_getElem? (i := 79) rfl)) (j := 0) rfl (by omega) (zp_r0 (by omega) (by omega)) rfl rfl ?_
        refine zp_goto (tgt := 111) (pc := 141) hx hb (zd_X12_law (141, .goto (-30), 3, 0, []) (List.mem_of_getElem? (i := 80) rfl)) rfl ?_
        refine ih (i + 1) Ge _ ncl nc (by omega) (by omega) hnl6 e3 e22 e24 e25 e20 e21 hncl e23 hnc eoth hL (fun k => (zp_set_ne (Or.inl (zp_pne hq2 hq3 (by decide)))).trans (z2 k)) g2 (fun k => (zp_set_ne (Or.inl (zp_pne hp hq3 (by decide)))).trans (za k)) (fun k => (zp_set_ne (Or.inl (zp_pne hq22 hq3 (by decide)))).trans (z22 k)) (fun k => (zp_set_ne (Or.inl (zp_pne hq24 hq3 (by decide)))).trans (z24 k)) (fun k => (zp_set_ne (Or.inl (zp_pne hq25 hq3 (by decide)))).trans (z25 k)) (fun j hj => (zp_set_ne (Or.inr (by omega))).trans (r0 j (by omega))) ((zp_set_ne (Or.inr (by omega))).trans r1) (fun j hj => ?_)
        by_cases hji : j = i
        · subst hji
          exact (zp_set_eq rfl (by omega)).trans (z22 _)
        · exact (zp_set_ne (Or.inr (by omega))).trans (r2 j (by omega))
  have hbad : ∀ (q : Nat) (G : Nat → Nat → Int), nl < 6 → (∃ (tk nl od : Nat) (pi : List (Int × Int)) (cd : yC), zD a G 1 B ln tk nl od pi cd) → G a 18 = (zy_fr B ln q : Int) → yT (zy_so B ln) (zy_wo B ln) (zy_to B ln) (yt_cl (zy_so B ln) (zy_wo B ln) (zy_to B ln) (ylf false B ln)) 12 0 0 (Sum.inl q) → (∀ k, G b3 k = zp_n u.2.1 b3 k) → G a 3 = (b3 : Int) → (∀ k, G b2 k = zp_n u.2.1 b2 k) → G a 2 = (b2 : Int) → zp_J p l e R s m args below meth c Q w u [] 37 [(0, 2, (a : Int))] [] u.1 G := by
    clear loop2 loop1
    intro q G hnl6 hbd h18 hyT z3 g3 z2 g2
    obtain ⟨tk, n9, od, pi, cd, hD⟩ := hbd
    have hD2 := hD
    obtain ⟨⟨d13, dl, dt, d12, dB⟩, ⟨d14, d15, d16, d17⟩, ⟨d19, d18⟩, ⟨d23, d24, d25⟩, d26, ⟨d29, dp⟩, d30⟩ := hD2
    refine zp_load (pc := 37) hx hb (zd_X12_law (37, .aload_n 0, 1, 0, []) (List.mem_of_getElem? (i := 21) rfl)) rfl (j := 0) rfl ?_
    refine zp_getf (n := 1) (pc := 38) hx hb hE hw (zd_X12_law (38, .getfield 240, 3, 0, []) (List.mem_of_getElem? (i := 22) rfl)) (j := 37) rfl rfl rfl hp d19 ?_
    refine zp_if (pc := 41) (tgt := 64) hx hb (zd_X12_law (41, .ifCond .ne 23, 3, 0, []) (List.mem_of_getElem? (i := 23) rfl)) rfl (fun (hcq67 : ¬ 1 = 0) => ?_) (fun (hcq67 : ¬ (¬ 1 = 0)) => ?_)
    · refine zp_load (pc := 64) hx hb (zd_X12_law (64, .aload_n 0, 1, 0, []) (List.mem_of_getElem? (i := 33) rfl)) rfl (j := 0) rfl ?_
      refine zp_call (pc := 65) (how := 0) (idx := 385) (mi := 235) (S := []) hx hb hE hw heff hrm (zY_et hW 1 B ln tk n9 od pi cd) rfl (j := 37) rfl rfl (by decide +kernel) (zd_X12_law (65, .invokevirtual 385, 3, 0, []) (List.mem_of_getElem? (i := 34) rfl)) [(a : Int)] rfl ⟨zp_o2 hp, trivial⟩ (Nat.le_of_ble_eq_true rfl) hD (fun al hal rne Pe Ge hexte hfre hoke hcse hpsie => ?_)
      obtain rfl := List.mem_singleton.mp hal
      obtain ⟨rfl, hte⟩ := hpsie
      obtain ⟨t20, t13, t30, t1, -⟩ := hte
      obtain ⟨t19, t18⟩ := t1 rfl
      have t19 : Ge a 19 = 1 := t19
      refine zp_load (pc := 68) hx hb (zd_X12_law (68, .aload_n 0, 1, 0, []) (List.mem_of_getElem? (i := 35) rfl)) rfl (j := 0) rfl ?_
      refine zp_getf (n := 1) (pc := 69) hx hb hE hw (zd_X12_law (69, .getfield 240, 3, 0, []) (List.mem_of_getElem? (i := 36) rfl)) (j := 37) rfl rfl rfl hp t19 ?_
      refine zp_if (pc := 72) (tgt := 82) hx hb (zd_X12_law (72, .ifCond .eq 10, 3, 0, []) (List.mem_of_getElem? (i := 37) rfl)) rfl (fun (hcq68 : 1 = 0) => ?_) (fun (hcq68 : ¬ (1 = 0)) => ?_)
      · exfalso
        omega
      · refine zp_load (pc := 75) hx hb (zd_X12_law (75, .aload_n 0, 1, 0, []) (List.mem_of_getElem? (i := 38) rfl)) rfl (j := 0) rfl ?_
        refine zp_const (pc := 76) hx hb (zd_X12_law (76, .bipush (-6), 2, 0, []) (List.mem_of_getElem? (i := 39) rfl)) rfl rfl ?_
        refine zp_call (pc := 78) (how := 0) (idx := 170) (mi := 183) (S := []) hx hb hE hw heff hrm (zX_tlx hW (zA2 a b2) (fun o k => Ge (zA2 a b2 o) k)) rfl (j := 0) rfl rfl (by decide +kernel) (zd_X12_law (78, .invokevirtual 170, 3, 0, []) (List.mem_of_getElem? (i := 40) rfl)) [(a : Int), (-6)] rfl ⟨zp_o2 hp, zp_o0 (by omega) (by omega) (by omega) (by omega), trivial⟩ (Nat.le_of_ble_eq_true rfl) ⟨zt_zM hp hq2 ((zp_nf hfre hp rfl).trans g2), rfl, (show (-6 : Int) ≤ (-6) by omega)⟩ (fun al hal rnt Pt Gt hextt hfrt hokt hcst hpsit => ?_)
        obtain rfl := List.mem_singleton.mp hal
        have hrt := zp_int (hokt _ rfl).1
        obtain ⟨rfl, Mqt, hMqt, hTqt, hrnt⟩ := hpsit
        have hrnt : rnt = (-6) := hrnt
        have hstt : zDts a b2 Ge Gt (-6) := zt_ts hMqt hTqt
        refine zp_iret (pc := 81) (n := rnt) hx hb hE hQ hU5 rfl (by decide) (zd_X12_law (81, .ireturn, 1, 0, []) (List.mem_of_getElem? (i := 41) rfl)) (j := 0) rfl (zp_o0 (by omega) (by omega) (by omega) (by omega)) ?_
        rw [hps]
        refine ⟨rfl, ⟨(zp_nf hfrt hp rfl).trans t13, ?_, (zp_nf hfrt hp rfl).trans t20, fun z => absurd (hv3.symm.trans z) (by omega), fun _ => ⟨Sum.inl q, hyT, Or.inl ⟨q, rfl, hrnt, fun j hj => ?_, ?_⟩⟩⟩, fun b9 hb9 hq9 => ?_⟩
        · show 0 ≤ Gt a 30
          rw [(zp_nf hfrt hp rfl).trans t30]
          omega
        · show zv Gt a 3 j = zv (zp_n u.2.1) a 3 j
          rw [zv_eq ((zp_nf hfrt hp rfl).trans ((zp_nf hfre hp rfl).trans g3)), zv_eq hb3]
          exact (zp_nc hfrt hq3 rfl _).trans ((zp_nc hfre hq3 rfl _).trans (z3 _))
        · show Gt a 18 = _
          exact (zp_nf hfrt hp rfl).trans (t18.trans h18)
        · have hb9 : zp_n u.2.1 a 2 = (b9 : Int) := hb9
          obtain rfl : b9 = b2 := by omega
          exact zt_dts hstt (fun k => (zp_nc hfre hq2 rfl k).trans (z2 k)) hrnt
    · exfalso
      omega
  have loop0 : ∀ (n : Nat) (L : List yK) (p1 n1 od : Nat) (pi : List (Int × Int)) (cd : yC) (G : Nat → Nat → Int), 400 - zy_fr B ln p1 < n → nl < 6 → zD a G 0 B ln p1 n1 od pi cd → n1 ≤ 50 → cd.2.2 ≤ zy_fr B ln p1 → zDw u.1 false a G → zDh u.1 a G → G a 21 = (L.length : Int) → 1 ≤ L.length → L.length ≤ 12 → zLs (zv G a 22) cd.1 cd.2.1 cd.2.2 0 L → G a 22 = (b22 : Int) ∧ G a 24 = (b24 : Int) ∧ G a 25 = (b25 : Int) → (∀ k, G b3 k = zp_n u.2.1 b3 k) → G a 3 = (b3 : Int) → (∀ k, G b2 k = zp_n u.2.1 b2 k) → G a 2 = (b2 : Int) → (∀ t, yTb (zy_so B ln) (zy_wo B ln) (zy_to B ln) (yt_cl (zy_so B ln) (zy_wo B ln) (zy_to B ln) (ylf false B ln)) (12 - L.length) p1 n1 t → yT (zy_so B ln) (zy_wo B ln) (zy_to B ln) (yt_cl (zy_so B ln) (zy_wo B ln) (zy_to B ln) (ylf false B ln)) 12 0 0 (yTg L t)) → zp_J p l e R s m args below meth c Q w u [] 37 [(0, 2, (a : Int))] [] u.1 G := by
    clear loop2
    intro n
    induction n with
    | zero => intro L p1 n1 od pi cd G h; exact absurd h (Nat.not_lt_zero _)
    | succ n ih =>
      intro L p1 n1 od pi cd G hn hnl6 hD hn5 hc5 hwG hhG g21 hL1 hL12 hLs hga z3 g3 z2 g2 hT
      obtain ⟨g22x, g24x, g25x⟩ := hga
      have hD2 := hD
      obtain ⟨⟨d13, dl, dt, d12, dB⟩, ⟨d14, d15, d16, d17⟩, ⟨d19, d18⟩, ⟨d23, d24, d25⟩, d26, ⟨d29, dp⟩, d30⟩ := hD2
      have hf := zy_nx (B := B) dt
      have hfl := zy_fr_le (B := B) dt
      refine zp_load (pc := 37) hx hb (zd_X12_law (37, .aload_n 0, 1, 0, []) (List.mem_of_getElem? (i := 21) rfl)) rfl (j := 0) rfl ?_
      refine zp_getf (n := 0) (pc := 38) hx hb hE hw (zd_X12_law (38, .getfield 240, 3, 0, []) (List.mem_of_getElem? (i := 22) rfl)) (j := 37) rfl rfl rfl hp d19 ?_
      refine zp_if (pc := 41) (tgt := 64) hx hb (zd_X12_law (41, .ifCond .ne 23, 3, 0, []) (List.mem_of_getElem? (i := 23) rfl)) rfl (fun (hcq69 : ¬ 0 = 0) => ?_) (fun (hcq69 : ¬ (¬ 0 = 0)) => ?_)
      · exfalso
        omega
      · refine zp_load (pc := 44) hx hb (zd_X12_law (44, .aload_n 0, 1, 0, []) (List.mem_of_getElem? (i := 24) rfl)) rfl (j := 0) rfl ?_
        refine zp_const (pc := 45) hx hb (zd_X12_law (45, .bipush 59, 2, 0, []) (List.mem_of_getElem? (i := 25) rfl)) rfl rfl ?_
        refine zp_call (pc := 47) (how := 0) (idx := 313) (mi := 221) (S := []) hx hb hE hw heff hrm (zY_si hW) rfl (j := 23) rfl rfl (by decide +kernel) (zd_X12_law (47, .invokevirtual 313, 3, 0, []) (List.mem_of_getElem? (i := 26) rfl)) [(a : Int), 59] rfl ⟨zp_o2 hp, zp_o0 (by decide) (by decide) (by decide) (by decide), trivial⟩ (Nat.le_of_ble_eq_true rfl) trivial (fun al hal rns Ps Gs hexts hfrs hoks hcss hpsis => ?_)
        obtain rfl := List.mem_singleton.mp hal
        have hrs := zp_int (hoks _ rfl).1
        obtain ⟨hPes, hGes, hts⟩ := hpsis
        rw [hPes, hGes]
        have hts : rns = 1 ↔ G a 16 = 3 ∧ G a 17 = 59 := hts
        rw [d16, d17] at hts
        refine zp_if (pc := 50) (tgt := 64) hx hb (zd_X12_law (50, .ifCond .eq 14, 3, 0, []) (List.mem_of_getElem? (i := 27) rfl)) rfl (fun (hcq70 : rns = 0) => ?_) (fun (hcq70 : ¬ (rns = 0)) => ?_)
        · refine zp_load (pc := 64) hx hb (zd_X12_law (64, .aload_n 0, 1, 0, []) (List.mem_of_getElem? (i := 33) rfl)) rfl (j := 0) rfl ?_
          refine zp_call (pc := 65) (how := 0) (idx := 385) (mi := 235) (S := []) hx hb hE hw heff hrm (zY_et hW 0 B ln p1 n1 od pi cd) rfl (j := 37) rfl rfl (by decide +kernel) (zd_X12_law (65, .invokevirtual 385, 3, 0, []) (List.mem_of_getElem? (i := 34) rfl)) [(a : Int)] rfl ⟨zp_o2 hp, trivial⟩ (Nat.le_of_ble_eq_true rfl) hD (fun al hal rne Pe Ge hexte hfre hoke hcse hpsie => ?_)
          obtain rfl := List.mem_singleton.mp hal
          obtain ⟨rfl, hte⟩ := hpsie
          obtain ⟨t20, t13, t30, -, t1⟩ := hte
          obtain ⟨t2, t4⟩ := t1 rfl
          have t13 : Ge a 13 = 0 := t13
          have t20 : Ge a 20 = 0 := t20
          have t30 : Ge a 30 = (od : Int) := t30
          have hns : ¬ yr_s (zy_so B ln) (zy_wo B ln) 59 p1 = true := fun z => by have := yr_s_i.mp z; omega
          by_cases hso0 : zy_so B ln p1 = 0
          · obtain ⟨t19, t18⟩ := t2 hso0
            have t19 : Ge a 19 = 0 := t19
            have t18 : Ge a 18 = -1 := t18.trans (d18 rfl)
            have hyT := hT (Sum.inr []) (by unfold yTb; rw [if_pos hso0])
            have hyT : yT (zy_so B ln) (zy_wo B ln) (zy_to B ln) (yt_cl (zy_so B ln) (zy_wo B ln) (zy_to B ln) (ylf false B ln)) 12 0 0 (Sum.inr L) := by
              have e : yTg L (Sum.inr []) = Sum.inr (L ++ []) := rfl
              rw [e, List.append_nil] at hyT
              exact hyT
            obtain ⟨nc, hnc⟩ : ∃ x : Nat, x = cd.2.2 := ⟨_, rfl⟩
            obtain ⟨ncl, hncl⟩ : ∃ x : Nat, x = L.length := ⟨_, rfl⟩
            have e3 : Ge a 3 = (b3 : Int) := (zp_nf hfre hp rfl).trans g3
            have e22 : Ge a 22 = (b22 : Int) := (zp_nf hfre hp rfl).trans g22x
            have e24 : Ge a 24 = (b24 : Int) := (zp_nf hfre hp rfl).trans g24x
            have e25 : Ge a 25 = (b25 : Int) := (zp_nf hfre hp rfl).trans g25x
            have e2 : Ge a 2 = (b2 : Int) := (zp_nf hfre hp rfl).trans g2
            have e21 : Ge a 21 = (ncl : Int) := (zp_nf hfre hp rfl).trans (by rw [hncl]; exact g21)
            have e23 : Ge a 23 = (nc : Int) := (zp_nf hfre hp rfl).trans (by rw [hnc]; exact d23)
            have hLe : ∃ L : List yK, yT (zy_so B ln) (zy_wo B ln) (zy_to B ln) (yt_cl (zy_so B ln) (zy_wo B ln) (zy_to B ln) (ylf false B ln)) 12 0 0 (Sum.inr L) ∧ L.length = ncl ∧ zLs (zv Ge a 22) (zv Ge a 24) (zv Ge a 25) nc 0 L := ⟨L, hyT, hncl.symm, zLs_c (N := cd.2.2) (by omega) (fun j _ => ⟨?_, ?_⟩) hLs (fun j _ _ => ?_)⟩
            rotate_left
            · rw [zv_eq e24, zp_nc hfre hq24 rfl, ← zv_eq g24x]; exact d24 j
            · rw [zv_eq e25, zp_nc hfre hq25 rfl, ← zv_eq g25x]; exact d25 j
            · rw [zv_eq e22, zp_nc hfre hq22 rfl, ← zv_eq g22x]
            refine zp_load (pc := 68) hx hb (zd_X12_law (68, .aload_n 0, 1, 0, []) (List.mem_of_getElem? (i := 35) rfl)) rfl (j := 0) rfl ?_
            refine zp_getf (n := 0) (pc := 69) hx hb hE hw (zd_X12_law (69, .getfield 240, 3, 0, []) (List.mem_of_getElem? (i := 36) rfl)) (j := 37) rfl rfl rfl hp t19 ?_
            refine zp_if (pc := 72) (tgt := 82) hx hb (zd_X12_law (72, .ifCond .eq 10, 3, 0, []) (List.mem_of_getElem? (i := 37) rfl)) rfl (fun (hcq71 : 0 = 0) => ?_) (fun (hcq71 : ¬ (0 = 0)) => ?_)
            · refine zp_weak (xs := [b3]) ?_
              refine zp_const (pc := 82) hx hb (zd_X12_law (82, .sipush 180, 3, 0, []) (List.mem_of_getElem? (i := 42) rfl)) rfl rfl ?_
              refine zp_const (pc := 85) hx hb (zd_X12_law (85, .sipush 900, 3, 0, []) (List.mem_of_getElem? (i := 43) rfl)) rfl rfl ?_
              refine zp_load (pc := 88) hx hb (zd_X12_law (88, .aload_n 0, 1, 0, []) (List.mem_of_getElem? (i := 44) rfl)) rfl (j := 0) rfl ?_
              refine zp_getf (n := (b3 : Int)) (pc := 89) hx hb hE hw (zd_X12_law (89, .getfield 13, 3, 0, []) (List.mem_of_getElem? (i := 45) rfl)) (j := 21) rfl rfl rfl hp e3 ?_
              refine zp_const (pc := 92) hx hb (zd_X12_law (92, .iconst 3, 1, 0, []) (List.mem_of_getElem? (i := 46) rfl)) rfl rfl ?_
              refine zp_ialdT (j := 3) (v := (nl : Int)) (pc := 93) hx hb hw (zd_X12_law (93, .iaload, 1, 0, []) (List.mem_of_getElem? (i := 47) rfl)) zl_T59 rfl (zl_kd 3) hq3 rfl (show 3 < 5580 by decide) ((zp_nc hfre hq3 rfl _).trans ((z3 _).trans hnl)) (fun hk72 => ?_)
              rw [zl_f3] at hk72
              have hk72b := zp_int hk72
              refine zp_mul (n := (900 * (nl : Int))) (pc := 94) hx hb (zd_X12_law (94, .imul, 1, 0, []) (List.mem_of_getElem? (i := 48) rfl)) (by omega) (zp_r0 (by omega) (by omega)) ?_
              refine zp_add (n := (900 * (nl : Int) + 180)) (pc := 95) hx hb (zd_X12_law (95, .iadd, 1, 0, []) (List.mem_of_getElem? (i := 49) rfl)) (by omega) (zp_r0 (by omega) (by omega)) ?_
              refine zp_store (L' := [(1, 0, (900 * (nl : Int) + 180)), (0, 2, (a : Int))]) (pc := 96) hx hb hnL (zd_X12_law (96, .istore_n 1, 1, 0, []) (List.mem_of_getElem? (i := 50) rfl)) rfl rfl rfl ?_
              refine zp_load (pc := 97) hx hb (zd_X12_law (97, .aload_n 0, 1, 0, []) (List.mem_of_getElem? (i := 51) rfl)) rfl (j := 1) rfl ?_
              refine zp_getf (n := (b3 : Int)) (pc := 98) hx hb hE hw (zd_X12_law (98, .getfield 13, 3, 0, []) (List.mem_of_getElem? (i := 52) rfl)) (j := 21) rfl rfl rfl hp e3 ?_
              refine zp_load (pc := 101) hx hb (zd_X12_law (101, .iload_n 1, 1, 0, []) (List.mem_of_getElem? (i := 53) rfl)) rfl (j := 0) rfl ?_
              refine zp_const (pc := 102) hx hb (zd_X12_law (102, .iconst 1, 1, 0, []) (List.mem_of_getElem? (i := 54) rfl)) rfl rfl ?_
              refine zp_add (n := (900 * (nl : Int) + 181)) (pc := 103) hx hb (zd_X12_law (103, .iadd, 1, 0, []) (List.mem_of_getElem? (i := 55) rfl)) (by omega) (zp_r0 (by omega) (by omega)) ?_
              refine zp_load (pc := 104) hx hb (zd_X12_law (104, .aload_n 0, 1, 0, []) (List.mem_of_getElem? (i := 56) rfl)) rfl (j := 1) rfl ?_
              refine zp_getf (n := (ncl : Int)) (pc := 105) hx hb hE hw (zd_X12_law (105, .getfield 371, 3, 0, []) (List.mem_of_getElem? (i := 57) rfl)) (j := 39) rfl rfl rfl hp e21 ?_
              have hst : zk_ok u.1 (zk_fj zl_T (900 * nl + 181)) (ncl : Int) := by
                obtain ⟨x, hx0⟩ := zl_rg1 hnl6
                rw [show (900 * nl + 181) = 180 + 900 * nl + 1 by omega, hx0]
                exact zp_o0 (by omega) (by omega) (by omega) (by omega)
              refine zp_iastU (j := (900 * nl + 181)) (pc := 108) hx hb hw heff (zd_X12_law (108, .iastore, 1, 0, []) (List.mem_of_getElem? (i := 58) rfl)) zl_T59 rfl (zl_kd _) hq3 (by omega) (show (900 * nl + 181) < 5580 by omega) (by omega) hst (Or.inl (List.mem_singleton.mpr rfl)) ⟨1003, rfl, zp_1003 (by omega) (by omega)⟩ ?_
              refine zp_const (pc := 109) hx hb (zd_X12_law (109, .iconst 0, 1, 0, []) (List.mem_of_getElem? (i := 59) rfl)) rfl rfl ?_
              refine zp_store (L' := [(2, 0, 0), (1, 0, (900 * (nl : Int) + 180)), (0, 2, (a : Int))]) (pc := 110) hx hb hnL (zd_X12_law (110, .istore_n 2, 1, 0, []) (List.mem_of_getElem? (i := 60) rfl)) rfl rfl rfl ?_
              exact loop1 (8 * ncl + 1) 0 Ge _ ncl nc (by omega) (by omega) hnl6 e3 e22 e24 e25 t20 e21 (by omega) e23 (by omega) ⟨t13, by rw [t30]; omega, t18⟩ hLe (fun k => (zp_set_ne (Or.inl (zp_pne hq2 hq3 (by decide)))).trans ((zp_nc hfre hq2 rfl k).trans (z2 k))) e2 (fun k => zp_set_ne (Or.inl (zp_pne hp hq3 (by decide)))) (fun k => zp_set_ne (Or.inl (zp_pne hq22 hq3 (by decide)))) (fun k => zp_set_ne (Or.inl (zp_pne hq24 hq3 (by decide)))) (fun k => zp_set_ne (Or.inl (zp_pne hq25 hq3 (by decide)))) (fun j hj => (zp_set_ne (Or.inr (by omega))).trans ((zp_nc hfre hq3 rfl _).trans (z3 _))) zp_set_self (fun j hj => absurd hj (Nat.not_lt_zero j))
            · exfalso
              omega
          · obtain ⟨t19, t18⟩ := t4 hso0
            have t19 : Ge a 19 = 1 := t19
            have hyT : yT (zy_so B ln) (zy_wo B ln) (zy_to B ln) (yt_cl (zy_so B ln) (zy_wo B ln) (zy_to B ln) (ylf false B ln)) 12 0 0 (Sum.inl p1) := hT (Sum.inl p1) (by unfold yTb; rw [if_neg hso0, if_neg hns])
            refine zp_load (pc := 68) hx hb (zd_X12_law (68, .aload_n 0, 1, 0, []) (List.mem_of_getElem? (i := 35) rfl)) rfl (j := 0) rfl ?_
            refine zp_getf (n := 1) (pc := 69) hx hb hE hw (zd_X12_law (69, .getfield 240, 3, 0, []) (List.mem_of_getElem? (i := 36) rfl)) (j := 37) rfl rfl rfl hp t19 ?_
            refine zp_if (pc := 72) (tgt := 82) hx hb (zd_X12_law (72, .ifCond .eq 10, 3, 0, []) (List.mem_of_getElem? (i := 37) rfl)) rfl (fun (hcq73 : 1 = 0) => ?_) (fun (hcq73 : ¬ (1 = 0)) => ?_)
            · exfalso
              omega
            · refine zp_load (pc := 75) hx hb (zd_X12_law (75, .aload_n 0, 1, 0, []) (List.mem_of_getElem? (i := 38) rfl)) rfl (j := 0) rfl ?_
              refine zp_const (pc := 76) hx hb (zd_X12_law (76, .bipush (-6), 2, 0, []) (List.mem_of_getElem? (i := 39) rfl)) rfl rfl ?_
              refine zp_call (pc := 78) (how := 0) (idx := 170) (mi := 183) (S := []) hx hb hE hw heff hrm (zX_tlx hW (zA2 a b2) (fun o k => Ge (zA2 a b2 o) k)) rfl (j := 0) rfl rfl (by decide +kernel) (zd_X12_law (78, .invokevirtual 170, 3, 0, []) (List.mem_of_getElem? (i := 40) rfl)) [(a : Int), (-6)] rfl ⟨zp_o2 hp, zp_o0 (by omega) (by omega) (by omega) (by omega), trivial⟩ (Nat.le_of_ble_eq_true rfl) ⟨zt_zM hp hq2 ((zp_nf hfre hp rfl).trans g2), rfl, (show (-6 : Int) ≤ (-6) by omega)⟩ (fun al hal rnt Pt Gt hextt hfrt hokt hcst hpsit => ?_)
              obtain rfl := List.mem_singleton.mp hal
              have hrt := zp_int (hokt _ rfl).1
              obtain ⟨rfl, Mqt, hMqt, hTqt, hrnt⟩ := hpsit
              have hrnt : rnt = (-6) := hrnt
              have hstt : zDts a b2 Ge Gt (-6) := zt_ts hMqt hTqt
              refine zp_iret (pc := 81) (n := rnt) hx hb hE hQ hU5 rfl (by decide) (zd_X12_law (81, .ireturn, 1, 0, []) (List.mem_of_getElem? (i := 41) rfl)) (j := 0) rfl (zp_o0 (by omega) (by omega) (by omega) (by omega)) ?_
              rw [hps]
              refine ⟨rfl, ⟨(zp_nf hfrt hp rfl).trans t13, ?_, (zp_nf hfrt hp rfl).trans t20, fun z => absurd (hv3.symm.trans z) (by omega), fun _ => ⟨Sum.inl p1, hyT, Or.inl ⟨p1, rfl, hrnt, fun j hj => ?_, ?_⟩⟩⟩, fun b9 hb9 hq9 => ?_⟩
              · show 0 ≤ Gt a 30
                rw [(zp_nf hfrt hp rfl).trans t30]
                omega
              · show zv Gt a 3 j = zv (zp_n u.2.1) a 3 j
                rw [zv_eq ((zp_nf hfrt hp rfl).trans ((zp_nf hfre hp rfl).trans g3)), zv_eq hb3]
                exact (zp_nc hfrt hq3 rfl _).trans ((zp_nc hfre hq3 rfl _).trans (z3 _))
              · show Gt a 18 = _
                exact (zp_nf hfrt hp rfl).trans t18
              · have hb9 : zp_n u.2.1 a 2 = (b9 : Int) := hb9
                obtain rfl : b9 = b2 := by omega
                exact zt_dts hstt (fun k => (zp_nc hfre hq2 rfl k).trans (z2 k)) hrnt
        · refine zp_load (pc := 53) hx hb (zd_X12_law (53, .aload_n 0, 1, 0, []) (List.mem_of_getElem? (i := 28) rfl)) rfl (j := 0) rfl ?_
          have hs3 : zy_so B ln p1 ≠ 0 := by omega
          have hf3 := hf.2.2 hs3
          have hys : yr_s (zy_so B ln) (zy_wo B ln) 59 p1 = true := yr_s_i.mpr ⟨by omega, by omega⟩
          refine zp_call (pc := 54) (how := 0) (idx := 244) (mi := 212) (S := []) hx hb hE hw heff hrm (zY_nx hW B ln (zy_to B ln p1)) rfl (j := 14) rfl rfl (by decide +kernel) (zd_X12_law (54, .invokevirtual 244, 3, 0, []) (List.mem_of_getElem? (i := 29) rfl)) [(a : Int)] rfl ⟨zp_o2 hp, trivial⟩ (Nat.le_of_ble_eq_true rfl) (zD_y hD) (fun al hal rnn Pn Gn hextn hfrn hokn hcsn hpsin => ?_)
          obtain rfl := List.mem_singleton.mp hal
          obtain ⟨rfl, htn⟩ := hpsin
          have hDn := zD_nx hD htn
          have hwn := zDw_fr hwG hp hfrn rfl
          have hhn := zDh_fr hhG hp hfrn rfl
          refine zp_load (pc := 57) hx hb (zd_X12_law (57, .aload_n 0, 1, 0, []) (List.mem_of_getElem? (i := 30) rfl)) rfl (j := 0) rfl ?_
          refine zp_call (pc := 58) (how := 0) (idx := 382) (mi := 215) (S := []) hx hb hE hw heff hrm (zY_la hW L.length B ln (zy_to B ln p1) n1 od pi cd) rfl (j := 17) rfl rfl (by decide +kernel) (zd_X12_law (58, .invokevirtual 382, 3, 0, []) (List.mem_of_getElem? (i := 31) rfl)) [(a : Int)] rfl ⟨zp_o2 hp, trivial⟩ (Nat.le_of_ble_eq_true rfl) ⟨hDn, hn5, by omega, hwn, hhn, (zp_nf hfrn hp rfl).trans g21, hL12⟩ (fun al hal rnl Pl Gl hextl hfrl hokl hcsl hpsil => ?_)
          obtain rfl := List.mem_singleton.mp hal
          obtain ⟨rfl, htl⟩ := hpsil
          have htl : zDc a Gn Gl B ln (zy_to B ln p1) n1 L.length cd := htl
          have hwl := zDw_fr hwn hp hfrl rfl
          have hhl := zDh_fr hhn hp hfrl rfl
          have hz3 : ∀ k, Gl b3 k = zp_n u.2.1 b3 k := fun k => (zp_nc hfrl hq3 rfl k).trans ((zp_nc hfrn hq3 rfl k).trans (z3 k))
          have hz2 : ∀ k, Gl b2 k = zp_n u.2.1 b2 k := fun k => (zp_nc hfrl hq2 rfl k).trans ((zp_nc hfrn hq2 rfl k).trans (z2 k))
          have hg2 : Gl a 2 = (b2 : Int) := (zp_nf hfrl hp rfl).trans ((zp_nf hfrn hp rfl).trans g2)
          have hg3 : Gl a 3 = (b3 : Int) := (zp_nf hfrl hp rfl).trans ((zp_nf hfrn hp rfl).trans g3)
          have hgl : Gl a 22 = (b22 : Int) ∧ Gl a 24 = (b24 : Int) ∧ Gl a 25 = (b25 : Int) := ⟨(zp_nf hfrl hp rfl).trans ((zp_nf hfrn hp rfl).trans g22x), (zp_nf hfrl hp rfl).trans ((zp_nf hfrn hp rfl).trans g24x), (zp_nf hfrl hp rfl).trans ((zp_nf hfrn hp rfl).trans g25x)⟩
          refine zp_goto (tgt := 37) (pc := 61) hx hb (zd_X12_law (61, .goto (-24), 3, 0, []) (List.mem_of_getElem? (i := 32) rfl)) rfl ?_
          by_cases h12 : L.length = 12
          · obtain ⟨y1, y2⟩ := htl.1 h12
            exact hbad _ Gl hnl6 y1 y2 (hT (Sum.inl (zy_to B ln p1)) (by unfold yTb; rw [if_neg hs3, if_pos hys]; rw [h12]; rfl)) hz3 hg3 hz2 hg2
          obtain ⟨sq, hsq, hcs⟩ := htl.2 (by omega)
          have hm : 12 - L.length = (12 - (L.length + 1)) + 1 := by omega
          rcases hcs with ⟨q, hq, y1, y2⟩ | ⟨p2, n2, K, od2, pi2, cd2, hq, hD2, hn2, hc2, hcc, hold, h21n, h22n, hK, hfr2⟩
          · subst hq
            exact hbad q Gl hnl6 y1 y2 (hT (Sum.inl q) (by unfold yTb; rw [if_neg hs3, if_pos hys]; rw [hm]; exact ⟨_, hsq, Or.inl ⟨q, rfl, rfl⟩⟩)) hz3 hg3 hz2 hg2
          · subst hq
            have hln2 : (L ++ [K]).length = L.length + 1 := by rw [List.length_append]; rfl
            have hp2 := zy_fr_le (B := B) hD2.1.2.2.1
            refine ih (L ++ [K]) p2 n2 od2 pi2 cd2 Gl (by omega) hnl6 hD2 hn2 hc2 hwl hhl (by rw [hln2]; exact h21n) (by omega) (by omega) ?_ hgl hz3 hg3 hz2 hg2 (fun t ht => ?_)
            · refine zLs_app (zLs_c hcc hold hLs (fun j _ hj => ?_)) ?_
              · rw [h22n j (by omega)]
                exact zDx_v htn (by decide) (by decide) (by decide) (by decide) j
              · rw [Nat.zero_add]
                exact hK
            · have h9 := hT (yTg [K] t) (by unfold yTb; rw [if_neg hs3, if_pos hys]; rw [hm]; rw [hln2] at ht; exact yT_b hsq ht)
              rw [yTg_g] at h9
              exact h9
  refine zp_load (pc := 0) hx hb (zd_X12_law (0, .aload_n 0, 1, 0, []) (List.mem_of_getElem? (i := 0) rfl)) rfl (j := 0) rfl ?_
  refine zp_const (pc := 1) hx hb (zd_X12_law (1, .iconst 0, 1, 0, []) (List.mem_of_getElem? (i := 1) rfl)) rfl rfl ?_
  refine zp_putf (pc := 2) hx hb hE hw heff (zd_X12_law (2, .putfield 161, 3, 0, []) (List.mem_of_getElem? (i := 2) rfl)) (j := 18) rfl rfl rfl hp (zp_o0 (by decide) (by decide) (by decide) (by decide)) ?_
  refine zp_load (pc := 5) hx hb (zd_X12_law (5, .aload_n 0, 1, 0, []) (List.mem_of_getElem? (i := 3) rfl)) rfl (j := 0) rfl ?_
  refine zp_getf (n := (b3 : Int)) (pc := 6) hx hb hE hw (zd_X12_law (6, .getfield 13, 3, 0, []) (List.mem_of_getElem? (i := 4) rfl)) (j := 21) rfl rfl rfl hp ((zp_set_ne (Or.inr (by decide))).trans (hb3)) ?_
  refine zp_const (pc := 9) hx hb (zd_X12_law (9, .iconst 3, 1, 0, []) (List.mem_of_getElem? (i := 5) rfl)) rfl rfl ?_
  refine zp_ialdT (j := 3) (v := (nl : Int)) (pc := 10) hx hb hw (zd_X12_law (10, .iaload, 1, 0, []) (List.mem_of_getElem? (i := 6) rfl)) zl_T59 rfl (zl_kd 3) hq3 rfl (show 3 < 5580 by decide) ((zp_set_ne (Or.inl (zp_pne hq3 hp (by decide)))).trans (hnl)) (fun hk74 => ?_)
  rw [zl_f3] at hk74
  have hk74b := zp_int hk74
  refine zp_const (pc := 11) hx hb (zd_X12_law (11, .bipush 6, 2, 0, []) (List.mem_of_getElem? (i := 7) rfl)) rfl rfl ?_
  refine zp_icmp (pc := 13) (tgt := 28) hx hb (zd_X12_law (13, .if_icmp .ne 15, 3, 0, []) (List.mem_of_getElem? (i := 8) rfl)) rfl (fun (hcq75 : ¬ (nl : Int) = 6) => ?_) (fun (hcq75 : ¬ (¬ (nl : Int) = 6)) => ?_)
  · refine zp_load (pc := 28) hx hb (zd_X12_law (28, .aload_n 0, 1, 0, []) (List.mem_of_getElem? (i := 16) rfl)) rfl (j := 0) rfl ?_
    refine zp_const (pc := 29) hx hb (zd_X12_law (29, .iconst 0, 1, 0, []) (List.mem_of_getElem? (i := 17) rfl)) rfl rfl ?_
    refine zp_call (pc := 30) (how := 0) (idx := 379) (mi := 210) (S := []) hx hb hE hw heff hrm (zY_bx hW B ln) rfl (j := 12) rfl rfl (by decide +kernel) (zd_X12_law (30, .invokevirtual 379, 3, 0, []) (List.mem_of_getElem? (i := 18) rfl)) [(a : Int), 0] rfl ⟨zp_o2 hp, zp_o0 (by decide) (by decide) (by decide) (by decide), trivial⟩ (Nat.le_of_ble_eq_true rfl) ⟨(zp_set_ne (Or.inr (by decide))).trans h13, hl4, fun j => (zv_sf (by decide) (Or.inr (by decide))).trans (h12 j), hB, by rw [zp_set_ne (Or.inr (by decide))]; exact h30⟩ (fun al hal rnb Pb Gb hextb hfrb hokb hcsb hpsib => ?_)
    obtain rfl := List.mem_singleton.mp hal
    obtain ⟨rfl, htb⟩ := hpsib
    obtain ⟨x1, x2, x18, x20, x21, od, pi, hDb⟩ := htb
    have hwb : zDw u.1 false a Gb := by
      obtain ⟨y0, b31, b32, ⟨y1, y2, y3⟩, y4, y5, y6⟩ := hw0
      have nb : ∀ b t, u.1 b = some t → t ≠ 92 → ∀ j, Gb b j = zp_n u.2.1 b j := fun b t hbt ht j => (x2 b j (zp_pne hbt hp ht)).trans (zp_set_ne (Or.inl (zp_pne hbt hp ht)))
      exact ⟨x20, b31, b32, ⟨((x1 31 (by decide) (by decide) (by decide) (by decide) (by decide) (by decide) (by decide) (by decide) (by decide) (by decide)).trans (zp_set_ne (Or.inr (by decide)))).trans y1, y2, fun k hk => (nb _ _ y2 (by decide) _).trans (y3 k hk)⟩, ((x1 32 (by decide) (by decide) (by decide) (by decide) (by decide) (by decide) (by decide) (by decide) (by decide) (by decide)).trans (zp_set_ne (Or.inr (by decide)))).trans y4, y5, fun k hk => (nb _ _ y5 (by decide) _).trans (y6 k hk)⟩
    have hhb : zDh u.1 a Gb := by
      obtain ⟨b33, y1, y2, y3⟩ := hh0
      exact ⟨b33, ((x1 33 (by decide) (by decide) (by decide) (by decide) (by decide) (by decide) (by decide) (by decide) (by decide) (by decide)).trans (zp_set_ne (Or.inr (by decide)))).trans y1, y2, fun k hk => ((x2 _ _ (zp_pne y2 hp (by decide))).trans (zp_set_ne (Or.inl (zp_pne y2 hp (by decide))))).trans (y3 k hk)⟩
    have hb3x : ∀ k, Gb b3 k = zp_n u.2.1 b3 k := fun k => (x2 _ _ (zp_pne hq3 hp (by decide))).trans (zp_set_ne (Or.inl (zp_pne hq3 hp (by decide))))
    have hga3 : Gb a 3 = (b3 : Int) := ((x1 3 (by decide) (by decide) (by decide) (by decide) (by decide) (by decide) (by decide) (by decide) (by decide) (by decide)).trans (zp_set_ne (Or.inr (by decide)))).trans hb3
    have hb2x : ∀ k, Gb b2 k = zp_n u.2.1 b2 k := fun k => (x2 _ _ (zp_pne hq2 hp (by decide))).trans (zp_set_ne (Or.inl (zp_pne hq2 hp (by decide))))
    have hga2 : Gb a 2 = (b2 : Int) := ((x1 2 (by decide) (by decide) (by decide) (by decide) (by decide) (by decide) (by decide) (by decide) (by decide) (by decide)).trans (zp_set_ne (Or.inr (by decide)))).trans hb2
    have hbx21 : Gb a 21 = ((0 : Nat) : Int) := x21
    refine zp_load (pc := 33) hx hb (zd_X12_law (33, .aload_n 0, 1, 0, []) (List.mem_of_getElem? (i := 19) rfl)) rfl (j := 0) rfl ?_
    refine zp_call (pc := 34) (how := 0) (idx := 382) (mi := 215) (S := []) hx hb hE hw heff hrm (zY_la hW 0 B ln 0 0 od pi (fun j => zv (zp_set (zp_n u.2.1) a 0 0) a 24 j, fun j => zv (zp_set (zp_n u.2.1) a 0 0) a 25 j, 0)) rfl (j := 17) rfl rfl (by decide +kernel) (zd_X12_law (34, .invokevirtual 382, 3, 0, []) (List.mem_of_getElem? (i := 20) rfl)) [(a : Int)] rfl ⟨zp_o2 hp, trivial⟩ (Nat.le_of_ble_eq_true rfl) ⟨hDb, by decide, Nat.zero_le _, hwb, hhb, hbx21, by decide⟩ (fun al hal rnl Pl Gl hextl hfrl hokl hcsl hpsil => ?_)
    obtain rfl := List.mem_singleton.mp hal
    obtain ⟨rfl, htl⟩ := hpsil
    have hwl := zDw_fr hwb hp hfrl rfl
    have hhl := zDh_fr hhb hp hfrl rfl
    have hz3 : ∀ k, Gl b3 k = zp_n u.2.1 b3 k := fun k => (zp_nc hfrl hq3 rfl k).trans (hb3x k)
    have hz2 : ∀ k, Gl b2 k = zp_n u.2.1 b2 k := fun k => (zp_nc hfrl hq2 rfl k).trans (hb2x k)
    have hg2 : Gl a 2 = (b2 : Int) := (zp_nf hfrl hp rfl).trans hga2
    have hg3 : Gl a 3 = (b3 : Int) := (zp_nf hfrl hp rfl).trans hga3
    have hgl : Gl a 22 = (b22 : Int) ∧ Gl a 24 = (b24 : Int) ∧ Gl a 25 = (b25 : Int) := ⟨(zp_nf hfrl hp rfl).trans (((x1 22 (by decide) (by decide) (by decide) (by decide) (by decide) (by decide) (by decide) (by decide) (by decide) (by decide)).trans (zp_set_ne (Or.inr (by decide)))).trans hb22), (zp_nf hfrl hp rfl).trans (((x1 24 (by decide) (by decide) (by decide) (by decide) (by decide) (by decide) (by decide) (by decide) (by decide) (by decide)).trans (zp_set_ne (Or.inr (by decide)))).trans hb24), (zp_nf hfrl hp rfl).trans (((x1 25 (by decide) (by decide) (by decide) (by decide) (by decide) (by decide) (by decide) (by decide) (by decide) (by decide)).trans (zp_set_ne (Or.inr (by decide)))).trans hb25)⟩
    obtain ⟨sq, hsq, hcs⟩ := htl.2 (by decide)
    rcases hcs with ⟨q, hq, y1, y2⟩ | ⟨p2, n2, K, od2, pi2, cd2, hq, hD2, hn2, hc2, hcc, hold, h21n, h22n, hK, hfr2⟩
    · subst hq
      exact hbad q Gl (by omega) y1 y2 ⟨_, hsq, Or.inl ⟨q, rfl, rfl⟩⟩ hz3 hg3 hz2 hg2
    · subst hq
      exact loop0 401 [K] p2 n2 od2 pi2 cd2 Gl (by omega) (by omega) hD2 hn2 hc2 hwl hhl h21n (Nat.le_of_ble_eq_true rfl) (Nat.le_of_ble_eq_true rfl) ⟨hK, trivial⟩ hgl hz3 hg3 hz2 hg2 (fun t ht => yT_b hsq ht)
  · refine zp_load (pc := 16) hx hb (zd_X12_law (16, .aload_n 0, 1, 0, []) (List.mem_of_getElem? (i := 9) rfl)) rfl (j := 0) rfl ?_
    refine zp_const (pc := 17) hx hb (zd_X12_law (17, .iconst 0, 1, 0, []) (List.mem_of_getElem? (i := 10) rfl)) rfl rfl ?_
    refine zp_putf (pc := 18) hx hb hE hw heff (zd_X12_law (18, .putfield 228, 3, 0, []) (List.mem_of_getElem? (i := 11) rfl)) (j := 31) rfl rfl rfl hp (zp_o0 (by decide) (by decide) (by decide) (by decide)) ?_
    refine zp_load (pc := 21) hx hb (zd_X12_law (21, .aload_n 0, 1, 0, []) (List.mem_of_getElem? (i := 12) rfl)) rfl (j := 0) rfl ?_
    refine zp_const (pc := 22) hx hb (zd_X12_law (22, .bipush (-5), 2, 0, []) (List.mem_of_getElem? (i := 13) rfl)) rfl rfl ?_
    refine zp_call (pc := 24) (how := 0) (idx := 170) (mi := 183) (S := []) hx hb hE hw heff hrm (zX_tlx hW (zA2 a b2) (fun o k => (zp_set (zp_set (zp_n u.2.1) a 0 0) a 13 0) (zA2 a b2 o) k)) rfl (j := 0) rfl rfl (by decide +kernel) (zd_X12_law (24, .invokevirtual 170, 3, 0, []) (List.mem_of_getElem? (i := 14) rfl)) [(a : Int), (-5)] rfl ⟨zp_o2 hp, zp_o0 (by omega) (by omega) (by omega) (by omega), trivial⟩ (Nat.le_of_ble_eq_true rfl) ⟨zt_zM hp hq2 ((zp_set_ne (Or.inr (by decide))).trans ((zp_set_ne (Or.inr (by decide))).trans (hb2))), rfl, (show (-6 : Int) ≤ (-5) by omega)⟩ (fun al hal rnt Pt Gt hextt hfrt hokt hcst hpsit => ?_)
    obtain rfl := List.mem_singleton.mp hal
    have hrt := zp_int (hokt _ rfl).1
    obtain ⟨rfl, Mqt, hMqt, hTqt, hrnt⟩ := hpsit
    have hrnt : rnt = (-5) := hrnt
    have hstt : zDts a b2 (zp_set (zp_set (zp_n u.2.1) a 0 0) a 13 0) Gt (-5) := zt_ts hMqt hTqt
    refine zp_iret (pc := 27) (n := rnt) hx hb hE hQ hU5 rfl (by decide) (zd_X12_law (27, .ireturn, 1, 0, []) (List.mem_of_getElem? (i := 15) rfl)) (j := 0) rfl (zp_o0 (by omega) (by omega) (by omega) (by omega)) ?_
    rw [hps]
    refine ⟨rfl, ⟨((zp_nf hfrt hp rfl).trans zp_set_self), ?_, (((zp_nf hfrt hp rfl).trans ((zp_set_ne (Or.inr (by decide))).trans ((zp_set_ne (Or.inr (by decide))))))).trans h20, fun _ => ⟨hrnt, fun j hj => ?_, ((zp_nf hfrt hp rfl).trans ((zp_set_ne (Or.inr (by decide))).trans ((zp_set_ne (Or.inr (by decide))))))⟩, fun z => absurd (hv3.trans (by omega)) z⟩, fun b9 hb9 hq9 => ?_⟩
    · show 0 ≤ Gt a 30
      rw [((zp_nf hfrt hp rfl).trans ((zp_set_ne (Or.inr (by decide))).trans ((zp_set_ne (Or.inr (by decide))))))]
      exact h30
    · show zv Gt a 3 j = zv (zp_n u.2.1) a 3 j
      rw [zv_eq (show Gt a 3 = (b3 : Int) from ((zp_nf hfrt hp rfl).trans ((zp_set_ne (Or.inr (by decide))).trans ((zp_set_ne (Or.inr (by decide))).trans (hb3))))), zv_eq hb3]
      exact (zp_nc hfrt hq3 rfl _).trans ((zp_set_ne (Or.inl (zp_pne hq3 hp (by decide)))).trans (zp_set_ne (Or.inl (zp_pne hq3 hp (by decide)))))
    · have hb9 : zp_n u.2.1 a 2 = (b9 : Int) := hb9
      obtain rfl : b9 = b2 := by omega
      exact zt_dts hstt (fun k => (zp_set_ne (Or.inl (zp_pne hq2 hp (by decide)))).trans (zp_set_ne (Or.inl (zp_pne hq2 hp (by decide))))) hrnt
