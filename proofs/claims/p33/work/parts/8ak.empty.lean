/-! part 8ak: the reference: law, orders: the tape is empty then -/
def zψ_et2 : (Nat → Option Nat) → (Nat → Nat → Int) → List Int → (Nat → Option Nat) → (Nat → Nat → Int) → Int → Prop := fun P G ps P' G' rn => P' = P ∧ G' (zp_0 ps) 20 = 0 ∧ (G' (zp_0 ps) 19 = 0 → G (zp_0 ps) 19 = 0) ∧ G' (zp_0 ps) 13 = 0
theorem zX_et2 {l : Launch} {w : zk_W} (hW : zh_W w) : zk_metX l w zt_dv zt_TB zK_et (zp_A zφ_et) (zp_B zψ_et2) ∧ zk_cok w zt_TB zK_et := by
  refine zp_meth hW (pl := 1788) rfl (by decide +kernel) (fun p e R s m args below meth c Q u hx hb hE hQ hU5 heff hnL hok hφ => ?_)
  have hw := hW.1
  obtain ⟨p0, hps, k0⟩ := zp_ps1 hok
  obtain ⟨a, rfl, hp⟩ := zp_this k0
  have hrm : zk_Kr (zk_ev (zp_E zK_et)) = zk_Kr zK_et := rfl
  rw [hps] at hφ ⊢
  have hφ : zs_tk a (zp_n u.2.1) := hφ
  show zp_J p l e R s m args below meth c Q w u [] 0 [(0, 2, (a : Int))] [] u.1 (zp_n u.2.1)
  refine zp_kn (k := 19) (a := a) hw (show zp_fd 92 19 = some (12, 0, 0, 0, 1) from rfl) rfl hp (fun hk19 => ?_)
  have hxb := zp_int hk19
  refine zp_load (pc := 0) hx hb (zd_X12_endText (0, .aload_n 0, 1, 0, []) (List.mem_of_getElem? (i := 0) rfl)) rfl (j := 0) rfl ?_
  refine zp_getf (n := ((zp_n u.2.1) a 19)) (pc := 1) hx hb hE hw (zd_X12_endText (1, .getfield 240, 3, 0, []) (List.mem_of_getElem? (i := 1) rfl)) (j := 37) rfl rfl rfl hp rfl ?_
  refine zp_if (pc := 4) (tgt := 19) hx hb (zd_X12_endText (4, .ifCond .ne 15, 3, 0, []) (List.mem_of_getElem? (i := 2) rfl)) rfl (fun (hc156 : ¬ ((zp_n u.2.1) a 19) = 0) => ?_) (fun (hc156 : ¬ (¬ ((zp_n u.2.1) a 19) = 0)) => ?_)
  · refine zp_load (pc := 19) hx hb (zd_X12_endText (19, .aload_n 0, 1, 0, []) (List.mem_of_getElem? (i := 9) rfl)) rfl (j := 0) rfl ?_
    refine zp_const (pc := 20) hx hb (zd_X12_endText (20, .iconst 0, 1, 0, []) (List.mem_of_getElem? (i := 10) rfl)) rfl rfl ?_
    refine zp_putf (pc := 21) hx hb hE hw heff (zd_X12_endText (21, .putfield 319, 3, 0, []) (List.mem_of_getElem? (i := 11) rfl)) (j := 38) rfl rfl rfl hp (zp_o0 (by decide) (by decide) (by decide) (by decide)) ?_
    refine zp_load (pc := 24) hx hb (zd_X12_endText (24, .aload_n 0, 1, 0, []) (List.mem_of_getElem? (i := 12) rfl)) rfl (j := 0) rfl ?_
    refine zp_const (pc := 25) hx hb (zd_X12_endText (25, .iconst 0, 1, 0, []) (List.mem_of_getElem? (i := 13) rfl)) rfl rfl ?_
    refine zp_putf (pc := 26) hx hb hE hw heff (zd_X12_endText (26, .putfield 228, 3, 0, []) (List.mem_of_getElem? (i := 14) rfl)) (j := 31) rfl rfl rfl hp (zp_o0 (by decide) (by decide) (by decide) (by decide)) ?_
    refine zp_vret (pc := 29) hx hb hE hQ hU5 rfl (by decide) (zd_X12_endText (29, .return_, 1, 0, []) (List.mem_of_getElem? (i := 15) rfl)) (j := 0) rfl ?_
    rw [hps]
    refine ⟨rfl, ((zp_set_ne (Or.inr (by decide))).trans (zp_set_self)), fun z => ?_, zp_set_self⟩
    have z : (zp_set (zp_set (zp_n u.2.1) a 20 0) a 13 0) a 19 = 0 := z
    have z1 : (zp_set (zp_set (zp_n u.2.1) a 20 0) a 13 0) a 19 = ((zp_n u.2.1) a 19) := ((zp_set_ne (Or.inr (by decide))).trans ((zp_set_ne (Or.inr (by decide)))))
    show zp_n u.2.1 a 19 = 0
    omega
  · refine zp_load (pc := 7) hx hb (zd_X12_endText (7, .aload_n 0, 1, 0, []) (List.mem_of_getElem? (i := 3) rfl)) rfl (j := 0) rfl ?_
    refine zp_getf (n := ((zp_n u.2.1) a 16)) (pc := 8) hx hb hE hw (zd_X12_endText (8, .getfield 260, 3, 0, []) (List.mem_of_getElem? (i := 4) rfl)) (j := 34) rfl rfl rfl hp rfl ?_
    refine zp_if (pc := 11) (tgt := 19) hx hb (zd_X12_endText (11, .ifCond .eq 8, 3, 0, []) (List.mem_of_getElem? (i := 5) rfl)) rfl (fun (hc157 : ((zp_n u.2.1) a 16) = 0) => ?_) (fun (hc157 : ¬ (((zp_n u.2.1) a 16) = 0)) => ?_)
    · refine zp_load (pc := 19) hx hb (zd_X12_endText (19, .aload_n 0, 1, 0, []) (List.mem_of_getElem? (i := 9) rfl)) rfl (j := 0) rfl ?_
      refine zp_const (pc := 20) hx hb (zd_X12_endText (20, .iconst 0, 1, 0, []) (List.mem_of_getElem? (i := 10) rfl)) rfl rfl ?_
      refine zp_putf (pc := 21) hx hb hE hw heff (zd_X12_endText (21, .putfield 319, 3, 0, []) (List.mem_of_getElem? (i := 11) rfl)) (j := 38) rfl rfl rfl hp (zp_o0 (by decide) (by decide) (by decide) (by decide)) ?_
      refine zp_load (pc := 24) hx hb (zd_X12_endText (24, .aload_n 0, 1, 0, []) (List.mem_of_getElem? (i := 12) rfl)) rfl (j := 0) rfl ?_
      refine zp_const (pc := 25) hx hb (zd_X12_endText (25, .iconst 0, 1, 0, []) (List.mem_of_getElem? (i := 13) rfl)) rfl rfl ?_
      refine zp_putf (pc := 26) hx hb hE hw heff (zd_X12_endText (26, .putfield 228, 3, 0, []) (List.mem_of_getElem? (i := 14) rfl)) (j := 31) rfl rfl rfl hp (zp_o0 (by decide) (by decide) (by decide) (by decide)) ?_
      refine zp_vret (pc := 29) hx hb hE hQ hU5 rfl (by decide) (zd_X12_endText (29, .return_, 1, 0, []) (List.mem_of_getElem? (i := 15) rfl)) (j := 0) rfl ?_
      rw [hps]
      refine ⟨rfl, ((zp_set_ne (Or.inr (by decide))).trans (zp_set_self)), fun z => ?_, zp_set_self⟩
      have z : (zp_set (zp_set (zp_n u.2.1) a 20 0) a 13 0) a 19 = 0 := z
      have z1 : (zp_set (zp_set (zp_n u.2.1) a 20 0) a 13 0) a 19 = ((zp_n u.2.1) a 19) := ((zp_set_ne (Or.inr (by decide))).trans ((zp_set_ne (Or.inr (by decide)))))
      show zp_n u.2.1 a 19 = 0
      omega
    · refine zp_load (pc := 14) hx hb (zd_X12_endText (14, .aload_n 0, 1, 0, []) (List.mem_of_getElem? (i := 6) rfl)) rfl (j := 0) rfl ?_
      refine zp_const (pc := 15) hx hb (zd_X12_endText (15, .iconst 0, 1, 0, []) (List.mem_of_getElem? (i := 7) rfl)) rfl rfl ?_
      refine zp_call (pc := 16) (how := 0) (idx := 275) (mi := 217) (S := []) hx hb hE hw heff hrm (zX_mu hW) rfl (j := 19) rfl rfl (by decide +kernel) (zd_X12_endText (16, .invokevirtual 275, 3, 0, []) (List.mem_of_getElem? (i := 8) rfl)) [(a : Int), 0] rfl ⟨zp_o2 hp, zp_o0 (by decide) (by decide) (by decide) (by decide), trivial⟩ (Nat.le_of_ble_eq_true rfl) hφ (fun al hal rnm Pm Gm hextm hfrm hokm hcsm hpsim => ?_)
      obtain rfl := List.mem_singleton.mp hal
      obtain ⟨rfl, htm, hmm⟩ := hpsim
      have hmm : zs_mu a 0 (zp_n u.2.1) Gm := hmm
      refine zp_load (pc := 19) hx hb (zd_X12_endText (19, .aload_n 0, 1, 0, []) (List.mem_of_getElem? (i := 9) rfl)) rfl (j := 0) rfl ?_
      refine zp_const (pc := 20) hx hb (zd_X12_endText (20, .iconst 0, 1, 0, []) (List.mem_of_getElem? (i := 10) rfl)) rfl rfl ?_
      refine zp_putf (pc := 21) hx hb hE hw heff (zd_X12_endText (21, .putfield 319, 3, 0, []) (List.mem_of_getElem? (i := 11) rfl)) (j := 38) rfl rfl rfl hp (zp_o0 (by decide) (by decide) (by decide) (by decide)) ?_
      refine zp_load (pc := 24) hx hb (zd_X12_endText (24, .aload_n 0, 1, 0, []) (List.mem_of_getElem? (i := 12) rfl)) rfl (j := 0) rfl ?_
      refine zp_const (pc := 25) hx hb (zd_X12_endText (25, .iconst 0, 1, 0, []) (List.mem_of_getElem? (i := 13) rfl)) rfl rfl ?_
      refine zp_putf (pc := 26) hx hb hE hw heff (zd_X12_endText (26, .putfield 228, 3, 0, []) (List.mem_of_getElem? (i := 14) rfl)) (j := 31) rfl rfl rfl hp (zp_o0 (by decide) (by decide) (by decide) (by decide)) ?_
      refine zp_vret (pc := 29) hx hb hE hQ hU5 rfl (by decide) (zd_X12_endText (29, .return_, 1, 0, []) (List.mem_of_getElem? (i := 15) rfl)) (j := 0) rfl ?_
      rw [hps]
      refine ⟨rfl, ((zp_set_ne (Or.inr (by decide))).trans (zp_set_self)), fun z => ?_, zp_set_self⟩
      have z : (zp_set (zp_set Gm a 20 0) a 13 0) a 19 = 0 := z
      have z1 : (zp_set (zp_set Gm a 20 0) a 13 0) a 19 = (Gm a 19) := ((zp_set_ne (Or.inr (by decide))).trans ((zp_set_ne (Or.inr (by decide)))))
      show zp_n u.2.1 a 19 = 0
      unfold zs_mu at hmm
      omega
def zψ_lw2 : (Nat → Option Nat) → (Nat → Nat → Int) → List Int → (Nat → Option Nat) → (Nat → Nat → Int) → Int → Prop := fun P G ps P' G' rn => P' = P ∧ G' (zp_0 ps) 20 = 0 ∧ G' (zp_0 ps) 13 = 0
theorem zX_lw2 {l : Launch} {w : zk_W} (hW : zh_W w) : zk_metX l w zt_dv zt_TB zK_lw (zp_A zφ_lw) (zp_B zψ_lw2) ∧ zk_cok w zt_TB zK_lw := by
  refine zp_meth hW (pl := 1672) rfl (by decide +kernel) (fun p e R s m args below meth c Q u hx hb hE hQ hU5 heff hnL hok hφ => ?_)
  have hw := hW.1
  obtain ⟨p0, hps, k0⟩ := zp_ps1 hok
  obtain ⟨a, rfl, hp⟩ := zp_this k0
  have hrm : zk_Kr (zk_ev (zp_E zK_lw)) = zk_Kr zK_lw := rfl
  rw [hps] at hφ ⊢
  have hφ : zp_n u.2.1 a 20 = 0 := hφ
  show zp_J p l e R s m args below meth c Q w u [] 0 [(0, 2, (a : Int))] [] u.1 (zp_n u.2.1)
  refine zp_kn (k := 3) (a := a) hw (show zp_fd 92 3 = some (12, 2, 59, 0, 0) from rfl) rfl hp (fun hk3 => ?_)
  obtain ⟨b3, hb3, hq3⟩ := zp_this hk3
  refine zp_kn (k := 22) (a := a) hw (show zp_fd 92 22 = some (12, 2, 67, 0, 0) from rfl) rfl hp (fun hk22 => ?_)
  obtain ⟨b22, hb22, hq22⟩ := zp_this hk22
  refine zp_kn (k := 24) (a := a) hw (show zp_fd 92 24 = some (12, 2, 68, 0, 0) from rfl) rfl hp (fun hk24 => ?_)
  obtain ⟨b24, hb24, hq24⟩ := zp_this hk24
  refine zp_kn (k := 25) (a := a) hw (show zp_fd 92 25 = some (12, 2, 69, 0, 0) from rfl) rfl hp (fun hk25 => ?_)
  obtain ⟨b25, hb25, hq25⟩ := zp_this hk25
  refine zp_kx hw hq3 zl_T59 rfl (fun hkx => ?_)
  obtain ⟨f0, hf0, hxi⟩ := hkx
  have hlaws : zk_laws f0 0 := hxi.1 rfl
  have hf0 : ∀ j, j < 5580 → f0 j = zp_n u.2.1 b3 (2000 + j) := hf0
  refine zp_kaT hw hq3 zl_T59 rfl zl_kd (fun hka => ?_)
  have hka : ∀ j, j < 5580 → zk_ok u.1 (zk_fj zl_T j) (zp_n u.2.1 b3 (2000 + j)) := hka
  have hk3 : 0 ≤ zp_n u.2.1 b3 (2000 + 3) ∧ zp_n u.2.1 b3 (2000 + 3) ≤ 6 := by
    have h := hka 3 (by decide)
    rw [zl_f3] at h
    exact zp_int h
  obtain ⟨nl, hnl⟩ := zp_nat hk3.1
  rw [hnl] at hk3
  have loop2 : ∀ (n k : Nat) (Ge G : Nat → Nat → Int) (ncl nc : Nat), nc - k < n → k ≤ nc → nl < 6 → Ge a 3 = (b3 : Int) → Ge a 22 = (b22 : Int) → Ge a 24 = (b24 : Int) → Ge a 25 = (b25 : Int) → Ge a 20 = 0 → Ge a 13 = 0 → Ge a 21 = (ncl : Int) → ncl ≤ 12 → Ge a 23 = (nc : Int) → nc ≤ 400 → (∀ c, c < ncl → zl_ok a Ge c) → (∀ k, G a k = Ge a k) → (∀ k, G b22 k = Ge b22 k) → (∀ k, G b24 k = Ge b24 k) → (∀ k, G b25 k = Ge b25 k) → (∀ j, j < 900 * nl + 181 ∨ 900 * nl + 1080 ≤ j → G b3 (2000 + j) = zp_n u.2.1 b3 (2000 + j)) → G b3 (2000 + (900 * nl + 181)) = (ncl : Int) → (∀ j, j < 8 * ncl → G b3 (2000 + (900 * nl + 182 + j)) = Ge b22 (2000 + j)) → (∀ q, q < k → G b3 (2000 + (900 * nl + 278 + 2 * q)) = Ge b24 (2000 + q) ∧ G b3 (2000 + (900 * nl + 278 + 2 * q + 1)) = Ge b25 (2000 + q)) → zp_J p l e R s m args below meth c Q w u [b3] 146 [(2, 0, (k : Int)), (1, 0, (900 * (nl : Int) + 180)), (0, 2, (a : Int))] [] u.1 G := by
    intro n
    induction n with
    | zero => intro k Ge G ncl nc h; exact absurd h (Nat.not_lt_zero _)
    | succ n ih =>
      intro k Ge G ncl nc hn hk hnl6 e3 e22 e24 e25 e20 e13 e21 hncl e23 hnc hok za z22 z24 z25 r0 r1 r2 r3
      refine zp_load (pc := 146) hx hb (zd_X12_law (146, .iload_n 2, 1, 0, []) (List.mem_of_getElem? (i := 83) rfl)) rfl (j := 0) rfl ?_
      refine zp_load (pc := 147) hx hb (zd_X12_law (147, .aload_n 0, 1, 0, []) (List.mem_of_getElem? (i := 84) rfl)) rfl (j := 2) rfl ?_
      refine zp_getf (n := (nc : Int)) (pc := 148) hx hb hE hw (zd_X12_law (148, .getfield 279, 3, 0, []) (List.mem_of_getElem? (i := 85) rfl)) (j := 41) rfl rfl rfl hp ((za 23).trans e23) ?_
      refine zp_icmp (pc := 151) (tgt := 200) hx hb (zd_X12_law (151, .if_icmp .ge 49, 3, 0, []) (List.mem_of_getElem? (i := 86) rfl)) rfl (fun (hc185 : (nc : Int) ≤ (k : Int)) => ?_) (fun (hc185 : ¬ ((nc : Int) ≤ (k : Int))) => ?_)
      · refine zp_load (pc := 200) hx hb (zd_X12_law (200, .aload_n 0, 1, 0, []) (List.mem_of_getElem? (i := 119) rfl)) rfl (j := 2) rfl ?_
        refine zp_getf (n := (b3 : Int)) (pc := 201) hx hb hE hw (zd_X12_law (201, .getfield 13, 3, 0, []) (List.mem_of_getElem? (i := 120) rfl)) (j := 21) rfl rfl rfl hp ((za 3).trans e3) ?_
        refine zp_const (pc := 204) hx hb (zd_X12_law (204, .iconst 3, 1, 0, []) (List.mem_of_getElem? (i := 121) rfl)) rfl rfl ?_
        refine zp_dup2 (pc := 205) hx hb (zd_X12_law (205, .dup2, 1, 0, []) (List.mem_of_getElem? (i := 122) rfl)) (show (0 : Nat) ≠ 1 by decide) (show (2 : Nat) ≠ 1 by decide) ?_
        refine zp_ialdT (j := 3) (v := (nl : Int)) (pc := 206) hx hb hw (zd_X12_law (206, .iaload, 1, 0, []) (List.mem_of_getElem? (i := 123) rfl)) zl_T59 rfl (zl_kd 3) hq3 rfl (show 3 < 5580 by decide) ((r0 3 (by omega)).trans hnl) (fun hk186 => ?_)
        rw [zl_f3] at hk186
        have hk186b := zp_int hk186
        refine zp_const (pc := 207) hx hb (zd_X12_law (207, .iconst 1, 1, 0, []) (List.mem_of_getElem? (i := 124) rfl)) rfl rfl ?_
        refine zp_add (n := ((nl : Int) + 1)) (pc := 208) hx hb (zd_X12_law (208, .iadd, 1, 0, []) (List.mem_of_getElem? (i := 125) rfl)) (by omega) (zp_r0 (by omega) (by omega)) ?_
        have hst : zk_ok u.1 (zk_fj zl_T 3) ((nl : Int) + 1) := by
          rw [zl_f3]
          exact zp_o0 (by omega) (by omega) (by omega) (by omega)
        refine zp_iastU (j := 3) (pc := 209) hx hb hw heff (zd_X12_law (209, .iastore, 1, 0, []) (List.mem_of_getElem? (i := 126) rfl)) zl_T59 rfl (zl_kd _) hq3 (by omega) (show 3 < 5580 by omega) (by omega) hst (Or.inl (List.mem_singleton.mpr rfl)) ⟨3771, rfl, by unfold zk_pm zk_er; decide⟩ ?_
        have hkn : k = nc := by omega
        refine zp_strong hw hq3 zl_T59 rfl (fun f hf => ⟨fun _ => ?_, fun z => absurd z (by decide)⟩) ?_
        · have hf : ∀ j, j < 5580 → f j = (zp_set G b3 (2000 + 3) ((nl : Int) + 1)) b3 (2000 + j) := hf
          intro k2 hk2
          show zk_law f (0 + 180 + 900 * k2)
          rw [Nat.zero_add]
          by_cases hkl : k2 = nl
          · subst hkl
            refine zl_new (ncl := ncl) (G := Ge) hk2 hok (by omega) ?_ (fun j hj => ?_) (fun q hq => ⟨?_, ?_⟩)
            · rw [hf _ (by omega), zp_set_ne (Or.inr (by omega)), ← r1]; congr 1; omega
            · rw [hf _ (by omega), zp_set_ne (Or.inr (by omega)), zv_eq e22, ← r2 j hj]; congr 1; omega
            · rw [hf _ (by omega), zp_set_ne (Or.inr (by omega)), zv_eq e24, ← (r3 q (by omega)).1]; congr 1; omega
            · rw [hf _ (by omega), zp_set_ne (Or.inr (by omega)), zv_eq e25, ← (r3 q (by omega)).2]; congr 1; omega
          · have hl0 := hlaws k2 hk2
            rw [Nat.zero_add] at hl0
            refine zl_congr hl0 (fun j hj => ?_) (fun c hc j j1 j2 => ?_)
            · rw [hf _ (by omega), zp_set_ne (Or.inr (by omega)), r0 _ (by omega), hf0 _ (by omega)]
            · obtain ⟨x, lo, hi, y1, y2, -⟩ := zl_rg3 hk2 hc (j := j) (by omega)
              have hb := hka (180 + 900 * k2 + 2 + (8 * c + j)) (by omega)
              rw [y1] at hb
              have hb2 := (zp_int hb).2
              have hy := (y2 j1 j2).2
              rw [hf0 _ (by omega), show 180 + 900 * k2 + 2 + 8 * c + j = 180 + 900 * k2 + 2 + (8 * c + j) by omega]
              omega
        refine zp_load (pc := 210) hx hb (zd_X12_law (210, .aload_n 0, 1, 0, []) (List.mem_of_getElem? (i := 127) rfl)) rfl (j := 2) rfl ?_
        refine zp_load (pc := 211) hx hb (zd_X12_law (211, .aload_n 0, 1, 0, []) (List.mem_of_getElem? (i := 128) rfl)) rfl (j := 2) rfl ?_
        refine zp_getf (n := (b3 : Int)) (pc := 212) hx hb hE hw (zd_X12_law (212, .getfield 13, 3, 0, []) (List.mem_of_getElem? (i := 129) rfl)) (j := 21) rfl rfl rfl hp ((zp_set_ne (Or.inl (zp_pne hp hq3 (by decide)))).trans (((za 3).trans e3))) ?_
        refine zp_const (pc := 215) hx hb (zd_X12_law (215, .iconst 3, 1, 0, []) (List.mem_of_getElem? (i := 130) rfl)) rfl rfl ?_
        refine zp_ialdT (j := 3) (v := ((nl : Int) + 1)) (pc := 216) hx hb hw (zd_X12_law (216, .iaload, 1, 0, []) (List.mem_of_getElem? (i := 131) rfl)) zl_T59 rfl (zl_kd 3) hq3 rfl (show 3 < 5580 by decide) zp_set_self (fun hk187 => ?_)
        rw [zl_f3] at hk187
        have hk187b := zp_int hk187
        refine zp_const (pc := 217) hx hb (zd_X12_law (217, .iconst 1, 1, 0, []) (List.mem_of_getElem? (i := 132) rfl)) rfl rfl ?_
        refine zp_sub (n := (nl : Int)) (pc := 218) hx hb (zd_X12_law (218, .isub, 1, 0, []) (List.mem_of_getElem? (i := 133) rfl)) (by omega) (zp_r0 (by omega) (by omega)) ?_
        refine zp_call (pc := 219) (how := 0) (idx := 170) (mi := 183) (S := []) hx hb hE hw heff hrm (zX_te hW) rfl (j := 0) rfl rfl (by decide +kernel) (zd_X12_law (219, .invokevirtual 170, 3, 0, []) (List.mem_of_getElem? (i := 134) rfl)) [(a : Int), (nl : Int)] rfl ⟨zp_o2 hp, zp_o0 (by omega) (by omega) (by omega) (by omega), trivial⟩ (Nat.le_of_ble_eq_true rfl) trivial (fun al hal rnt Pt Gt hextt hfrt hokt hcst hpsit => ?_)
        obtain rfl := List.mem_singleton.mp hal
        have hrt := zp_int (hokt _ rfl).1
        obtain ⟨rfl, hrnt⟩ := hpsit
        have hrnt : rnt = (nl : Int) := hrnt
        refine zp_iret (pc := 222) (n := rnt) hx hb hE hQ hU5 rfl (by decide) (zd_X12_law (222, .ireturn, 1, 0, []) (List.mem_of_getElem? (i := 135) rfl)) (j := 0) rfl (zp_o0 (by omega) (by omega) (by omega) (by omega)) ?_
        rw [hps]
        refine ⟨rfl, ?_, ?_⟩
        · show Gt a 20 = 0
          exact ((zp_nf hfrt hp rfl).trans ((zp_set_ne (Or.inl (zp_pne hp hq3 (by decide)))).trans (((za 20).trans e20))))
        · show Gt a 13 = 0
          exact ((zp_nf hfrt hp rfl).trans ((zp_set_ne (Or.inl (zp_pne hp hq3 (by decide)))).trans (((za 13).trans e13))))
      · refine zp_load (pc := 154) hx hb (zd_X12_law (154, .aload_n 0, 1, 0, []) (List.mem_of_getElem? (i := 87) rfl)) rfl (j := 2) rfl ?_
        refine zp_getf (n := (b3 : Int)) (pc := 155) hx hb hE hw (zd_X12_law (155, .getfield 13, 3, 0, []) (List.mem_of_getElem? (i := 88) rfl)) (j := 21) rfl rfl rfl hp ((za 3).trans e3) ?_
        refine zp_load (pc := 158) hx hb (zd_X12_law (158, .iload_n 1, 1, 0, []) (List.mem_of_getElem? (i := 89) rfl)) rfl (j := 1) rfl ?_
        refine zp_const (pc := 159) hx hb (zd_X12_law (159, .bipush 98, 2, 0, []) (List.mem_of_getElem? (i := 90) rfl)) rfl rfl ?_
        refine zp_add (n := (900 * (nl : Int) + 278)) (pc := 161) hx hb (zd_X12_law (161, .iadd, 1, 0, []) (List.mem_of_getElem? (i := 91) rfl)) (by omega) (zp_r0 (by omega) (by omega)) ?_
        refine zp_const (pc := 162) hx hb (zd_X12_law (162, .iconst 2, 1, 0, []) (List.mem_of_getElem? (i := 92) rfl)) rfl rfl ?_
        refine zp_load (pc := 163) hx hb (zd_X12_law (163, .iload_n 2, 1, 0, []) (List.mem_of_getElem? (i := 93) rfl)) rfl (j := 0) rfl ?_
        refine zp_mul (n := (2 * (k : Int))) (pc := 164) hx hb (zd_X12_law (164, .imul, 1, 0, []) (List.mem_of_getElem? (i := 94) rfl)) (by omega) (zp_r0 (by omega) (by omega)) ?_
        refine zp_add (n := (900 * (nl : Int) + 2 * (k : Int) + 278)) (pc := 165) hx hb (zd_X12_law (165, .iadd, 1, 0, []) (List.mem_of_getElem? (i := 95) rfl)) (by omega) (zp_r0 (by omega) (by omega)) ?_
        refine zp_load (pc := 166) hx hb (zd_X12_law (166, .aload_n 0, 1, 0, []) (List.mem_of_getElem? (i := 96) rfl)) rfl (j := 2) rfl ?_
        refine zp_getf (n := (b24 : Int)) (pc := 167) hx hb hE hw (zd_X12_law (167, .getfield 45, 3, 0, []) (List.mem_of_getElem? (i := 97) rfl)) (j := 42) rfl rfl rfl hp ((za 24).trans e24) ?_
        refine zp_load (pc := 170) hx hb (zd_X12_law (170, .iload_n 2, 1, 0, []) (List.mem_of_getElem? (i := 98) rfl)) rfl (j := 0) rfl ?_
        refine zp_iald (j := k) (v := (G b24 (2000 + k))) (pc := 171) hx hb hw (zd_X12_law (171, .iaload, 1, 0, []) (List.mem_of_getElem? (i := 99) rfl)) (show zp_ia 1 68 = some (400, 0, 0, (-2147483648), 2147483647) from rfl) hq24 (by omega) (by omega) rfl (fun hk188 => ?_)
        have hk188b := zp_int hk188
        have hst : zk_ok u.1 (zk_fj zl_T (900 * nl + 2 * k + 278)) (G b24 (2000 + k)) := by
          obtain ⟨x, hx0⟩ := zl_rg2 hnl6 (j := 98 + 2 * k) (by omega) (by omega)
          rw [show (900 * nl + 2 * k + 278) = 180 + 900 * nl + (98 + 2 * k) by omega, hx0]
          exact zp_o0 (by omega) (by omega) (by omega) (by omega)
        refine zp_iastU (j := (900 * nl + 2 * k + 278)) (pc := 172) hx hb hw heff (zd_X12_law (172, .iastore, 1, 0, []) (List.mem_of_getElem? (i := 100) rfl)) zl_T59 rfl (zl_kd _) hq3 (by omega) (show (900 * nl + 2 * k + 278) < 5580 by omega) (by omega) hst (Or.inl (List.mem_singleton.mpr rfl)) ⟨1003, rfl, zp_1003 (by omega) (by omega)⟩ ?_
        refine zp_load (pc := 173) hx hb (zd_X12_law (173, .aload_n 0, 1, 0, []) (List.mem_of_getElem? (i := 101) rfl)) rfl (j := 2) rfl ?_
        refine zp_getf (n := (b3 : Int)) (pc := 174) hx hb hE hw (zd_X12_law (174, .getfield 13, 3, 0, []) (List.mem_of_getElem? (i := 102) rfl)) (j := 21) rfl rfl rfl hp ((zp_set_ne (Or.inl (zp_pne hp hq3 (by decide)))).trans (((za 3).trans e3))) ?_
        refine zp_load (pc := 177) hx hb (zd_X12_law (177, .iload_n 1, 1, 0, []) (List.mem_of_getElem? (i := 103) rfl)) rfl (j := 1) rfl ?_
        refine zp_const (pc := 178) hx hb (zd_X12_law (178, .bipush 98, 2, 0, []) (List.mem_of_getElem? (i := 104) rfl)) rfl rfl ?_
        refine zp_add (n := (900 * (nl : Int) + 278)) (pc := 180) hx hb (zd_X12_law (180, .iadd, 1, 0, []) (List.mem_of_getElem? (i := 105) rfl)) (by omega) (zp_r0 (by omega) (by omega)) ?_
        refine zp_const (pc := 181) hx hb (zd_X12_law (181, .iconst 2, 1, 0, []) (List.mem_of_getElem? (i := 106) rfl)) rfl rfl ?_
        refine zp_load (pc := 182) hx hb (zd_X12_law (182, .iload_n 2, 1, 0, []) (List.mem_of_getElem? (i := 107) rfl)) rfl (j := 0) rfl ?_
        refine zp_mul (n := (2 * (k : Int))) (pc := 183) hx hb (zd_X12_law (183, .imul, 1, 0, []) (List.mem_of_getElem? (i := 108) rfl)) (by omega) (zp_r0 (by omega) (by omega)) ?_
        refine zp_add (n := (900 * (nl : Int) + 2 * (k : Int) + 278)) (pc := 184) hx hb (zd_X12_law (184, .iadd, 1, 0, []) (List.mem_of_getElem? (i := 109) rfl)) (by omega) (zp_r0 (by omega) (by omega)) ?_
        refine zp_const (pc := 185) hx hb (zd_X12_law (185, .iconst 1, 1, 0, []) (List.mem_of_getElem? (i := 110) rfl)) rfl rfl ?_
        refine zp_add (n := (900 * (nl : Int) + 2 * (k : Int) + 279)) (pc := 186) hx hb (zd_X12_law (186, .iadd, 1, 0, []) (List.mem_of_getElem? (i := 111) rfl)) (by omega) (zp_r0 (by omega) (by omega)) ?_
        refine zp_load (pc := 187) hx hb (zd_X12_law (187, .aload_n 0, 1, 0, []) (List.mem_of_getElem? (i := 112) rfl)) rfl (j := 2) rfl ?_
        refine zp_getf (n := (b25 : Int)) (pc := 188) hx hb hE hw (zd_X12_law (188, .getfield 48, 3, 0, []) (List.mem_of_getElem? (i := 113) rfl)) (j := 43) rfl rfl rfl hp ((zp_set_ne (Or.inl (zp_pne hp hq3 (by decide)))).trans (((za 25).trans e25))) ?_
        refine zp_load (pc := 191) hx hb (zd_X12_law (191, .iload_n 2, 1, 0, []) (List.mem_of_getElem? (i := 114) rfl)) rfl (j := 0) rfl ?_
        refine zp_iald (j := k) (v := (G b25 (2000 + k))) (pc := 192) hx hb hw (zd_X12_law (192, .iaload, 1, 0, []) (List.mem_of_getElem? (i := 115) rfl)) (show zp_ia 1 69 = some (400, 0, 0, (-2147483648), 2147483647) from rfl) hq25 (by omega) (by omega) ((zp_set_ne (Or.inl (zp_pne hq25 hq3 (by decide))))) (fun hk189 => ?_)
        have hk189b := zp_int hk189
        have hst : zk_ok u.1 (zk_fj zl_T (900 * nl + 2 * k + 279)) (G b25 (2000 + k)) := by
          obtain ⟨x, hx0⟩ := zl_rg2 hnl6 (j := 98 + 2 * k + 1) (by omega) (by omega)
          rw [show (900 * nl + 2 * k + 279) = 180 + 900 * nl + (98 + 2 * k + 1) by omega, hx0]
          exact zp_o0 (by omega) (by omega) (by omega) (by omega)
        refine zp_iastU (j := (900 * nl + 2 * k + 279)) (pc := 193) hx hb hw heff (zd_X12_law (193, .iastore, 1, 0, []) (List.mem_of_getElem? (i := 116) rfl)) zl_T59 rfl (zl_kd _) hq3 (by omega) (show (900 * nl + 2 * k + 279) < 5580 by omega) (by omega) hst (Or.inl (List.mem_singleton.mpr rfl)) ⟨1003, rfl, zp_1003 (by omega) (by omega)⟩ ?_
        refine zp_iinc (L' := [(2, 0, ((k : Int) + 1)), (1, 0, (900 * (nl : Int) + 180)), (0, 2, (a : Int))]) (n := ((k : Int) + 1)) (pc := 194) hx hb hnL (zd_X12_law (194, .iinc 2 1, 3, 0, []) (List.mem_of_getElem? (i := 117) rfl)) (j := 0) rfl (by omega) (zp_r0 (by omega) (by omega)) rfl rfl ?_
        refine zp_goto (tgt := 146) (pc := 197) hx hb (zd_X12_law (197, .goto (-51), 3, 0, []) (List.mem_of_getElem? (i := 118) rfl)) rfl ?_
        refine ih (k + 1) Ge _ ncl nc (by omega) (by omega) hnl6 e3 e22 e24 e25 e20 e13 e21 hncl e23 hnc hok (fun k => ((zp_set_ne (Or.inl (zp_pne hp hq3 (by decide)))).trans (zp_set_ne (Or.inl (zp_pne hp hq3 (by decide))))).trans (za k)) (fun k => ((zp_set_ne (Or.inl (zp_pne hq22 hq3 (by decide)))).trans (zp_set_ne (Or.inl (zp_pne hq22 hq3 (by decide))))).trans (z22 k)) (fun k => ((zp_set_ne (Or.inl (zp_pne hq24 hq3 (by decide)))).trans (zp_set_ne (Or.inl (zp_pne hq24 hq3 (by decide))))).trans (z24 k)) (fun k => ((zp_set_ne (Or.inl (zp_pne hq25 hq3 (by decide)))).trans (zp_set_ne (Or.inl (zp_pne hq25 hq3 (by decide))))).trans (z25 k)) (fun j hj => ((zp_set_ne (Or.inr (by omega))).trans (zp_set_ne (Or.inr (by omega)))).trans (r0 j hj)) (((zp_set_ne (Or.inr (by omega))).trans (zp_set_ne (Or.inr (by omega)))).trans r1) (fun j hj => ((zp_set_ne (Or.inr (by omega))).trans (zp_set_ne (Or.inr (by omega)))).trans (r2 j hj)) (fun q hq => ?_)
        by_cases hqk : q = k
        · subst hqk
          exact ⟨((zp_set_ne (Or.inr (by omega))).trans (zp_set_eq rfl (by omega))).trans (z24 _), (zp_set_eq rfl (by omega)).trans ((rfl).trans (z25 _))⟩
        · exact ⟨((zp_set_ne (Or.inr (by omega))).trans (zp_set_ne (Or.inr (by omega)))).trans (r3 q (by omega)).1, ((zp_set_ne (Or.inr (by omega))).trans (zp_set_ne (Or.inr (by omega)))).trans (r3 q (by omega)).2⟩
  have loop1 : ∀ (n i : Nat) (Ge G : Nat → Nat → Int) (ncl nc : Nat), 8 * ncl - i < n → i ≤ 8 * ncl → nl < 6 → Ge a 3 = (b3 : Int) → Ge a 22 = (b22 : Int) → Ge a 24 = (b24 : Int) → Ge a 25 = (b25 : Int) → Ge a 20 = 0 → Ge a 13 = 0 → Ge a 21 = (ncl : Int) → ncl ≤ 12 → Ge a 23 = (nc : Int) → nc ≤ 400 → (∀ c, c < ncl → zl_ok a Ge c) → (∀ k, G a k = Ge a k) → (∀ k, G b22 k = Ge b22 k) → (∀ k, G b24 k = Ge b24 k) → (∀ k, G b25 k = Ge b25 k) → (∀ j, j < 900 * nl + 181 ∨ 900 * nl + 182 + i ≤ j → G b3 (2000 + j) = zp_n u.2.1 b3 (2000 + j)) → G b3 (2000 + (900 * nl + 181)) = (ncl : Int) → (∀ j, j < i → G b3 (2000 + (900 * nl + 182 + j)) = Ge b22 (2000 + j)) → zp_J p l e R s m args below meth c Q w u [b3] 111 [(2, 0, (i : Int)), (1, 0, (900 * (nl : Int) + 180)), (0, 2, (a : Int))] [] u.1 G := by
    intro n
    induction n with
    | zero => intro i Ge G ncl nc h; exact absurd h (Nat.not_lt_zero _)
    | succ n ih =>
      intro i Ge G ncl nc hn hk hnl6 e3 e22 e24 e25 e20 e13 e21 hncl e23 hnc hok za z22 z24 z25 r0 r1 r2
      refine zp_load (pc := 111) hx hb (zd_X12_law (111, .iload_n 2, 1, 0, []) (List.mem_of_getElem? (i := 61) rfl)) rfl (j := 0) rfl ?_
      refine zp_const (pc := 112) hx hb (zd_X12_law (112, .bipush 8, 2, 0, []) (List.mem_of_getElem? (i := 62) rfl)) rfl rfl ?_
      refine zp_load (pc := 114) hx hb (zd_X12_law (114, .aload_n 0, 1, 0, []) (List.mem_of_getElem? (i := 63) rfl)) rfl (j := 2) rfl ?_
      refine zp_getf (n := (ncl : Int)) (pc := 115) hx hb hE hw (zd_X12_law (115, .getfield 371, 3, 0, []) (List.mem_of_getElem? (i := 64) rfl)) (j := 39) rfl rfl rfl hp ((za 21).trans e21) ?_
      refine zp_mul (n := (8 * (ncl : Int))) (pc := 118) hx hb (zd_X12_law (118, .imul, 1, 0, []) (List.mem_of_getElem? (i := 65) rfl)) (by omega) (zp_r0 (by omega) (by omega)) ?_
      refine zp_icmp (pc := 119) (tgt := 144) hx hb (zd_X12_law (119, .if_icmp .ge 25, 3, 0, []) (List.mem_of_getElem? (i := 66) rfl)) rfl (fun (hc190 : (8 * (ncl : Int)) ≤ (i : Int)) => ?_) (fun (hc190 : ¬ ((8 * (ncl : Int)) ≤ (i : Int))) => ?_)
      · refine zp_const (pc := 144) hx hb (zd_X12_law (144, .iconst 0, 1, 0, []) (List.mem_of_getElem? (i := 81) rfl)) rfl rfl ?_
        refine zp_store (L' := [(2, 0, 0), (1, 0, (900 * (nl : Int) + 180)), (0, 2, (a : Int))]) (pc := 145) hx hb hnL (zd_X12_law (145, .istore_n 2, 1, 0, []) (List.mem_of_getElem? (i := 82) rfl)) rfl rfl rfl ?_
        have hin : i = 8 * ncl := by omega
        exact loop2 (nc + 1) 0 Ge G ncl nc (by omega) (by omega) hnl6 e3 e22 e24 e25 e20 e13 e21 hncl e23 hnc hok za z22 z24 z25 (fun j hj => r0 j (by omega)) r1 (fun j hj => r2 j (by omega)) (fun q hq => absurd hq (Nat.not_lt_zero q))
      · refine zp_load (pc := 122) hx hb (zd_X12_law (122, .aload_n 0, 1, 0, []) (List.mem_of_getElem? (i := 67) rfl)) rfl (j := 2) rfl ?_
        refine zp_getf (n := (b3 : Int)) (pc := 123) hx hb hE hw (zd_X12_law (123, .getfield 13, 3, 0, []) (List.mem_of_getElem? (i := 68) rfl)) (j := 21) rfl rfl rfl hp ((za 3).trans e3) ?_
        refine zp_load (pc := 126) hx hb (zd_X12_law (126, .iload_n 1, 1, 0, []) (List.mem_of_getElem? (i := 69) rfl)) rfl (j := 1) rfl ?_
        refine zp_const (pc := 127) hx hb (zd_X12_law (127, .iconst 2, 1, 0, []) (List.mem_of_getElem? (i := 70) rfl)) rfl rfl ?_
        refine zp_add (n := (900 * (nl : Int) + 182)) (pc := 128) hx hb (zd_X12_law (128, .iadd, 1, 0, []) (List.mem_of_getElem? (i := 71) rfl)) (by omega) (zp_r0 (by omega) (by omega)) ?_
        refine zp_load (pc := 129) hx hb (zd_X12_law (129, .iload_n 2, 1, 0, []) (List.mem_of_getElem? (i := 72) rfl)) rfl (j := 0) rfl ?_
        refine zp_add (n := (900 * (nl : Int) + (i : Int) + 182)) (pc := 130) hx hb (zd_X12_law (130, .iadd, 1, 0, []) (List.mem_of_getElem? (i := 73) rfl)) (by omega) (zp_r0 (by omega) (by omega)) ?_
        refine zp_load (pc := 131) hx hb (zd_X12_law (131, .aload_n 0, 1, 0, []) (List.mem_of_getElem? (i := 74) rfl)) rfl (j := 2) rfl ?_
        refine zp_getf (n := (b22 : Int)) (pc := 132) hx hb hE hw (zd_X12_law (132, .getfield 42, 3, 0, []) (List.mem_of_getElem? (i := 75) rfl)) (j := 40) rfl rfl rfl hp ((za 22).trans e22) ?_
        refine zp_load (pc := 135) hx hb (zd_X12_law (135, .iload_n 2, 1, 0, []) (List.mem_of_getElem? (i := 76) rfl)) rfl (j := 0) rfl ?_
        refine zp_iald (j := i) (v := (G b22 (2000 + i))) (pc := 136) hx hb hw (zd_X12_law (136, .iaload, 1, 0, []) (List.mem_of_getElem? (i := 77) rfl)) (show zp_ia 1 67 = some (96, 0, 0, (-2147483648), 2147483647) from rfl) hq22 (by omega) (by omega) rfl (fun hk191 => ?_)
        have hk191b := zp_int hk191
        have hst : zk_ok u.1 (zk_fj zl_T (900 * nl + i + 182)) (G b22 (2000 + i)) := by
          obtain ⟨x, lo, hi, y1, y2, y3⟩ := zl_rg3 (c := i / 8) (j := i % 8) hnl6 (by omega) (by omega)
          rw [show (900 * nl + i + 182) = 180 + 900 * nl + 2 + (8 * (i / 8) + i % 8) by omega, y1]
          by_cases h36 : 3 ≤ i % 8 ∧ i % 8 ≤ 6
          · obtain ⟨rfl, rfl⟩ := y2 h36.1 h36.2
            have hb := (hok (i / 8) (by omega)).1 (i % 8) h36.1 h36.2
            rw [show 8 * (i / 8) + i % 8 = i by omega, zv_eq e22, ← z22] at hb
            exact zp_o0 (by omega) (by omega) (by omega) (by omega)
          · obtain ⟨rfl, rfl⟩ := y3 (by omega)
            exact zp_o0 (by omega) (by omega) (by omega) (by omega)
        refine zp_iastU (j := (900 * nl + i + 182)) (pc := 137) hx hb hw heff (zd_X12_law (137, .iastore, 1, 0, []) (List.mem_of_getElem? (i := 78) rfl)) zl_T59 rfl (zl_kd _) hq3 (by omega) (show (900 * nl + i + 182) < 5580 by omega) (by omega) hst (Or.inl (List.mem_singleton.mpr rfl)) ⟨1003, rfl, zp_1003 (by omega) (by omega)⟩ ?_
        refine zp_iinc (L' := [(2, 0, ((i : Int) + 1)), (1, 0, (900 * (nl : Int) + 180)), (0, 2, (a : Int))]) (n := ((i : Int) + 1)) (pc := 138) hx hb hnL (zd_X12_law (138, .iinc 2 1, 3, 0, []) (List.mem_of_getElem? (i := 79) rfl)) (j := 0) rfl (by omega) (zp_r0 (by omega) (by omega)) rfl rfl ?_
        refine zp_goto (tgt := 111) (pc := 141) hx hb (zd_X12_law (141, .goto (-30), 3, 0, []) (List.mem_of_getElem? (i := 80) rfl)) rfl ?_
        refine ih (i + 1) Ge _ ncl nc (by omega) (by omega) hnl6 e3 e22 e24 e25 e20 e13 e21 hncl e23 hnc hok (fun k => (zp_set_ne (Or.inl (zp_pne hp hq3 (by decide)))).trans (za k)) (fun k => (zp_set_ne (Or.inl (zp_pne hq22 hq3 (by decide)))).trans (z22 k)) (fun k => (zp_set_ne (Or.inl (zp_pne hq24 hq3 (by decide)))).trans (z24 k)) (fun k => (zp_set_ne (Or.inl (zp_pne hq25 hq3 (by decide)))).trans (z25 k)) (fun j hj => (zp_set_ne (Or.inr (by omega))).trans (r0 j (by omega))) ((zp_set_ne (Or.inr (by omega))).trans r1) (fun j hj => ?_)
        by_cases hji : j = i
        · subst hji
          exact (zp_set_eq rfl (by omega)).trans (z22 _)
        · exact (zp_set_ne (Or.inr (by omega))).trans (r2 j (by omega))
  have h64 : ∀ (G : Nat → Nat → Int), nl < 6 → zl_in a G → (∀ k, G b3 k = zp_n u.2.1 b3 k) → G a 3 = (b3 : Int) → G a 22 = (b22 : Int) → G a 24 = (b24 : Int) → G a 25 = (b25 : Int) → zp_J p l e R s m args below meth c Q w u [] 64 [(0, 2, (a : Int))] [] u.1 G := by
    intro G hnl6 hin z3 g3 g22 g24 g25
    obtain ⟨i1, i2, i3, i4, i5, i6⟩ := hin
    refine zp_load (pc := 64) hx hb (zd_X12_law (64, .aload_n 0, 1, 0, []) (List.mem_of_getElem? (i := 33) rfl)) rfl (j := 0) rfl ?_
    refine zp_call (pc := 65) (how := 0) (idx := 385) (mi := 235) (S := []) hx hb hE hw heff hrm (zX_et2 hW) rfl (j := 37) rfl rfl (by decide +kernel) (zd_X12_law (65, .invokevirtual 385, 3, 0, []) (List.mem_of_getElem? (i := 34) rfl)) [(a : Int)] rfl ⟨zp_o2 hp, trivial⟩ (Nat.le_of_ble_eq_true rfl) i1 (fun al hal rne Pe Ge hexte hfre hoke hcse hpsie => ?_)
    obtain rfl := List.mem_singleton.mp hal
    obtain ⟨rfl, he20, he19, he13⟩ := hpsie
    have he13 : Ge a 13 = 0 := he13
    have he20 : Ge a 20 = 0 := he20
    have he19 : Ge a 19 = 0 → G a 19 = 0 := he19
    refine zp_kn (k := 19) (a := a) (G := Ge) hw (show zp_fd 92 19 = some (12, 0, 0, 0, 1) from rfl) rfl hp (fun hk19 => ?_)
    have hx19 := zp_int hk19
    refine zp_load (pc := 68) hx hb (zd_X12_law (68, .aload_n 0, 1, 0, []) (List.mem_of_getElem? (i := 35) rfl)) rfl (j := 0) rfl ?_
    refine zp_getf (n := (Ge a 19)) (pc := 69) hx hb hE hw (zd_X12_law (69, .getfield 240, 3, 0, []) (List.mem_of_getElem? (i := 36) rfl)) (j := 37) rfl rfl rfl hp rfl ?_
    refine zp_if (pc := 72) (tgt := 82) hx hb (zd_X12_law (72, .ifCond .eq 10, 3, 0, []) (List.mem_of_getElem? (i := 37) rfl)) rfl (fun (hc192 : (Ge a 19) = 0) => ?_) (fun (hc192 : ¬ ((Ge a 19) = 0)) => ?_)
    · have hb0 : G a 19 = 0 := he19 (by omega)
      obtain ⟨ncl, hncl⟩ := zp_nat i2
      obtain ⟨nc, hnc⟩ := zp_nat i4
      refine zp_kn (k := 23) (a := a) (G := Ge) hw (show zp_fd 92 23 = some (12, 0, 0, 0, 400) from rfl) rfl hp (fun hk23 => ?_)
      have hx23 := zp_int hk23
      have e3 : Ge a 3 = (b3 : Int) := ((zp_nf hfre hp rfl).trans g3)
      have e22 : Ge a 22 = (b22 : Int) := ((zp_nf hfre hp rfl).trans g22)
      have e24 : Ge a 24 = (b24 : Int) := ((zp_nf hfre hp rfl).trans g24)
      have e25 : Ge a 25 = (b25 : Int) := ((zp_nf hfre hp rfl).trans g25)
      have e21 : Ge a 21 = (ncl : Int) := (zp_nf hfre hp rfl).trans hncl
      have e23 : Ge a 23 = (nc : Int) := (zp_nf hfre hp rfl).trans hnc
      have hok : ∀ c, c < ncl → zl_ok a Ge c := fun c hc => zl_keep (i6 hb0 c (by omega)) (fun j hj => by rw [zv_eq e22, zv_eq g22, zp_nc hfre hq22 rfl]) (by omega) (fun q hq => ⟨by rw [zv_eq e24, zv_eq g24, zp_nc hfre hq24 rfl], by rw [zv_eq e25, zv_eq g25, zp_nc hfre hq25 rfl]⟩)
      refine zp_weak (xs := [b3]) ?_
      refine zp_const (pc := 82) hx hb (zd_X12_law (82, .sipush 180, 3, 0, []) (List.mem_of_getElem? (i := 42) rfl)) rfl rfl ?_
      refine zp_const (pc := 85) hx hb (zd_X12_law (85, .sipush 900, 3, 0, []) (List.mem_of_getElem? (i := 43) rfl)) rfl rfl ?_
      refine zp_load (pc := 88) hx hb (zd_X12_law (88, .aload_n 0, 1, 0, []) (List.mem_of_getElem? (i := 44) rfl)) rfl (j := 0) rfl ?_
      refine zp_getf (n := (b3 : Int)) (pc := 89) hx hb hE hw (zd_X12_law (89, .getfield 13, 3, 0, []) (List.mem_of_getElem? (i := 45) rfl)) (j := 21) rfl rfl rfl hp ((zp_nf hfre hp rfl).trans g3) ?_
      refine zp_const (pc := 92) hx hb (zd_X12_law (92, .iconst 3, 1, 0, []) (List.mem_of_getElem? (i := 46) rfl)) rfl rfl ?_
      refine zp_ialdT (j := 3) (v := (nl : Int)) (pc := 93) hx hb hw (zd_X12_law (93, .iaload, 1, 0, []) (List.mem_of_getElem? (i := 47) rfl)) zl_T59 rfl (zl_kd 3) hq3 rfl (show 3 < 5580 by decide) ((zp_nc hfre hq3 rfl (2000 + 3)).trans ((z3 _).trans hnl)) (fun hk193 => ?_)
      rw [zl_f3] at hk193
      have hk193b := zp_int hk193
      refine zp_mul (n := (900 * (nl : Int))) (pc := 94) hx hb (zd_X12_law (94, .imul, 1, 0, []) (List.mem_of_getElem? (i := 48) rfl)) (by omega) (zp_r0 (by omega) (by omega)) ?_
      refine zp_add (n := (900 * (nl : Int) + 180)) (pc := 95) hx hb (zd_X12_law (95, .iadd, 1, 0, []) (List.mem_of_getElem? (i := 49) rfl)) (by omega) (zp_r0 (by omega) (by omega)) ?_
      refine zp_store (L' := [(1, 0, (900 * (nl : Int) + 180)), (0, 2, (a : Int))]) (pc := 96) hx hb hnL (zd_X12_law (96, .istore_n 1, 1, 0, []) (List.mem_of_getElem? (i := 50) rfl)) rfl rfl rfl ?_
      refine zp_load (pc := 97) hx hb (zd_X12_law (97, .aload_n 0, 1, 0, []) (List.mem_of_getElem? (i := 51) rfl)) rfl (j := 1) rfl ?_
      refine zp_getf (n := (b3 : Int)) (pc := 98) hx hb hE hw (zd_X12_law (98, .getfield 13, 3, 0, []) (List.mem_of_getElem? (i := 52) rfl)) (j := 21) rfl rfl rfl hp ((zp_nf hfre hp rfl).trans g3) ?_
      refine zp_load (pc := 101) hx hb (zd_X12_law (101, .iload_n 1, 1, 0, []) (List.mem_of_getElem? (i := 53) rfl)) rfl (j := 0) rfl ?_
      refine zp_const (pc := 102) hx hb (zd_X12_law (102, .iconst 1, 1, 0, []) (List.mem_of_getElem? (i := 54) rfl)) rfl rfl ?_
      refine zp_add (n := (900 * (nl : Int) + 181)) (pc := 103) hx hb (zd_X12_law (103, .iadd, 1, 0, []) (List.mem_of_getElem? (i := 55) rfl)) (by omega) (zp_r0 (by omega) (by omega)) ?_
      refine zp_load (pc := 104) hx hb (zd_X12_law (104, .aload_n 0, 1, 0, []) (List.mem_of_getElem? (i := 56) rfl)) rfl (j := 1) rfl ?_
      refine zp_getf (n := (ncl : Int)) (pc := 105) hx hb hE hw (zd_X12_law (105, .getfield 371, 3, 0, []) (List.mem_of_getElem? (i := 57) rfl)) (j := 39) rfl rfl rfl hp e21 ?_
      have hst : zk_ok u.1 (zk_fj zl_T (900 * nl + 181)) (ncl : Int) := by
        obtain ⟨x, hx0⟩ := zl_rg1 hnl6
        rw [show (900 * nl + 181) = 180 + 900 * nl + 1 by omega, hx0]
        exact zp_o0 (by omega) (by omega) (by omega) (by omega)
      refine zp_iastU (j := (900 * nl + 181)) (pc := 108) hx hb hw heff (zd_X12_law (108, .iastore, 1, 0, []) (List.mem_of_getElem? (i := 58) rfl)) zl_T59 rfl (zl_kd _) hq3 (by omega) (show (900 * nl + 181) < 5580 by omega) (by omega) hst (Or.inl (List.mem_singleton.mpr rfl)) ⟨1003, rfl, zp_1003 (by omega) (by omega)⟩ ?_
      refine zp_const (pc := 109) hx hb (zd_X12_law (109, .iconst 0, 1, 0, []) (List.mem_of_getElem? (i := 59) rfl)) rfl rfl ?_
      refine zp_store (L' := [(2, 0, 0), (1, 0, (900 * (nl : Int) + 180)), (0, 2, (a : Int))]) (pc := 110) hx hb hnL (zd_X12_law (110, .istore_n 2, 1, 0, []) (List.mem_of_getElem? (i := 60) rfl)) rfl rfl rfl ?_
      have hz3 : ∀ k, Ge b3 k = zp_n u.2.1 b3 k := fun k => (zp_nc hfre hq3 rfl k).trans (z3 k)
      exact loop1 (8 * ncl + 1) 0 Ge _ ncl nc (by omega) (by omega) hnl6 e3 e22 e24 e25 he20 he13 e21 (by omega) e23 (by omega) hok (fun k => zp_set_ne (Or.inl (zp_pne hp hq3 (by decide)))) (fun k => zp_set_ne (Or.inl (zp_pne hq22 hq3 (by decide)))) (fun k => zp_set_ne (Or.inl (zp_pne hq24 hq3 (by decide)))) (fun k => zp_set_ne (Or.inl (zp_pne hq25 hq3 (by decide)))) (fun j hj => (zp_set_ne (Or.inr (by omega))).trans (hz3 _)) zp_set_self (fun j hj => absurd hj (Nat.not_lt_zero j))
    · refine zp_load (pc := 75) hx hb (zd_X12_law (75, .aload_n 0, 1, 0, []) (List.mem_of_getElem? (i := 38) rfl)) rfl (j := 0) rfl ?_
      refine zp_const (pc := 76) hx hb (zd_X12_law (76, .bipush (-6), 2, 0, []) (List.mem_of_getElem? (i := 39) rfl)) rfl rfl ?_
      refine zp_call (pc := 78) (how := 0) (idx := 170) (mi := 183) (S := []) hx hb hE hw heff hrm (zX_te hW) rfl (j := 0) rfl rfl (by decide +kernel) (zd_X12_law (78, .invokevirtual 170, 3, 0, []) (List.mem_of_getElem? (i := 40) rfl)) [(a : Int), (-6)] rfl ⟨zp_o2 hp, zp_o0 (by omega) (by omega) (by omega) (by omega), trivial⟩ (Nat.le_of_ble_eq_true rfl) trivial (fun al hal rnt Pt Gt hextt hfrt hokt hcst hpsit => ?_)
      obtain rfl := List.mem_singleton.mp hal
      have hrt := zp_int (hokt _ rfl).1
      obtain ⟨rfl, hrnt⟩ := hpsit
      have hrnt : rnt = (-6) := hrnt
      refine zp_iret (pc := 81) (n := rnt) hx hb hE hQ hU5 rfl (by decide) (zd_X12_law (81, .ireturn, 1, 0, []) (List.mem_of_getElem? (i := 41) rfl)) (j := 0) rfl (zp_o0 (by omega) (by omega) (by omega) (by omega)) ?_
      rw [hps]
      refine ⟨rfl, ?_, ?_⟩
      · show Gt a 20 = 0
        exact ((zp_nf hfrt hp rfl).trans he20)
      · show Gt a 13 = 0
        exact ((zp_nf hfrt hp rfl).trans he13)
  have loop0 : ∀ (n : Nat) (G : Nat → Nat → Int), 400 - G a 14 < n → nl < 6 → zl_in a G → (∀ k, G b3 k = zp_n u.2.1 b3 k) → G a 3 = (b3 : Int) → G a 22 = (b22 : Int) → G a 24 = (b24 : Int) → G a 25 = (b25 : Int) → zp_J p l e R s m args below meth c Q w u [] 37 [(0, 2, (a : Int))] [] u.1 G := by
    intro n
    induction n with
    | zero =>
      intro G hn hnl6 hin z3 g3 g22 g24 g25
      refine zp_kn (k := 13) (a := a) (G := G) hw (show zp_fd 92 13 = some (12, 0, 0, 0, 400) from rfl) rfl hp (fun hk13 => ?_)
      have hx13 := zp_int hk13
      have ht := hin.1
      obtain ⟨t1, t2, t3, -, -, -⟩ := ht
      exfalso
      omega
    | succ n ih =>
      intro G hn hnl6 hin z3 g3 g22 g24 g25
      refine zp_kn (k := 13) (a := a) (G := G) hw (show zp_fd 92 13 = some (12, 0, 0, 0, 400) from rfl) rfl hp (fun hk13 => ?_)
      have hx13 := zp_int hk13
      have hin2 := hin
      obtain ⟨i1, i2, i3, i4, i5, i6⟩ := hin2
      have ht := i1
      obtain ⟨t1, t2, t3, -, -, t6⟩ := ht
      refine zp_load (pc := 37) hx hb (zd_X12_law (37, .aload_n 0, 1, 0, []) (List.mem_of_getElem? (i := 21) rfl)) rfl (j := 0) rfl ?_
      refine zp_getf (n := (G a 19)) (pc := 38) hx hb hE hw (zd_X12_law (38, .getfield 240, 3, 0, []) (List.mem_of_getElem? (i := 22) rfl)) (j := 37) rfl rfl rfl hp rfl ?_
      refine zp_if (pc := 41) (tgt := 64) hx hb (zd_X12_law (41, .ifCond .ne 23, 3, 0, []) (List.mem_of_getElem? (i := 23) rfl)) rfl (fun (hc194 : ¬ (G a 19) = 0) => ?_) (fun (hc194 : ¬ (¬ (G a 19) = 0)) => ?_)
      · exact h64 G hnl6 hin z3 g3 g22 g24 g25
      · refine zp_load (pc := 44) hx hb (zd_X12_law (44, .aload_n 0, 1, 0, []) (List.mem_of_getElem? (i := 24) rfl)) rfl (j := 0) rfl ?_
        refine zp_const (pc := 45) hx hb (zd_X12_law (45, .bipush 59, 2, 0, []) (List.mem_of_getElem? (i := 25) rfl)) rfl rfl ?_
        refine zp_call (pc := 47) (how := 0) (idx := 313) (mi := 221) (S := []) hx hb hE hw heff hrm (zX_si hW) rfl (j := 23) rfl rfl (by decide +kernel) (zd_X12_law (47, .invokevirtual 313, 3, 0, []) (List.mem_of_getElem? (i := 26) rfl)) [(a : Int), 59] rfl ⟨zp_o2 hp, zp_o0 (by decide) (by decide) (by decide) (by decide), trivial⟩ (Nat.le_of_ble_eq_true rfl) trivial (fun al hal rns Ps Gs hexts hfrs hoks hcss hpsis => ?_)
        obtain rfl := List.mem_singleton.mp hal
        have hrs := zp_int (hoks _ rfl).1
        obtain ⟨hPes, hGes, hts⟩ := hpsis
        rw [hPes, hGes]
        have hts : rns = 1 → G a 16 = 3 := hts
        refine zp_if (pc := 50) (tgt := 64) hx hb (zd_X12_law (50, .ifCond .eq 14, 3, 0, []) (List.mem_of_getElem? (i := 27) rfl)) rfl (fun (hc195 : rns = 0) => ?_) (fun (hc195 : ¬ (rns = 0)) => ?_)
        · exact h64 G hnl6 hin z3 g3 g22 g24 g25
        · refine zp_load (pc := 53) hx hb (zd_X12_law (53, .aload_n 0, 1, 0, []) (List.mem_of_getElem? (i := 28) rfl)) rfl (j := 0) rfl ?_
          refine zp_call (pc := 54) (how := 0) (idx := 244) (mi := 212) (S := []) hx hb hE hw heff hrm (zX_nx hW) rfl (j := 14) rfl rfl (by decide +kernel) (zd_X12_law (54, .invokevirtual 244, 3, 0, []) (List.mem_of_getElem? (i := 29) rfl)) [(a : Int)] rfl ⟨zp_o2 hp, trivial⟩ (Nat.le_of_ble_eq_true rfl) (show 0 ≤ G a 15 ∧ G a 15 ≤ G a 13 by omega) (fun al hal rnn Pn Gn hextn hfrn hokn hcsn hpsin => ?_)
          obtain rfl := List.mem_singleton.mp hal
          obtain ⟨rfl, hxn⟩ := hpsin
          have hxn : G a 15 ≤ Gn a 14 ∧ Gn a 14 ≤ Gn a 15 ∧ Gn a 15 ≤ G a 13 ∧ 0 ≤ Gn a 16 ∧ Gn a 16 ≤ 3 ∧ (Gn a 16 ≠ 0 → Gn a 14 < Gn a 15) := hxn
          have n13 : Gn a 13 = G a 13 := zp_nf hfrn hp rfl
          have n19 : Gn a 19 = G a 19 := zp_nf hfrn hp rfl
          have n21 : Gn a 21 = G a 21 := zp_nf hfrn hp rfl
          have n23 : Gn a 23 = G a 23 := zp_nf hfrn hp rfl
          have n22 : Gn a 22 = (b22 : Int) := (zp_nf hfrn hp rfl).trans g22
          have n24 : Gn a 24 = (b24 : Int) := (zp_nf hfrn hp rfl).trans g24
          have n25 : Gn a 25 = (b25 : Int) := (zp_nf hfrn hp rfl).trans g25
          have hlt := t6 (by omega)
          have hinn : zl_in a Gn := ⟨by unfold zs_tk; omega, by omega, by omega, by omega, by omega, fun z c hc => zl_keep (i6 (by omega) c (by omega)) (fun j hj => by rw [zv_eq n22, zv_eq g22, zp_nc hfrn hq22 rfl]) (by omega) (fun q hq => ⟨by rw [zv_eq n24, zv_eq g24, zp_nc hfrn hq24 rfl], by rw [zv_eq n25, zv_eq g25, zp_nc hfrn hq25 rfl]⟩)⟩
          refine zp_load (pc := 57) hx hb (zd_X12_law (57, .aload_n 0, 1, 0, []) (List.mem_of_getElem? (i := 30) rfl)) rfl (j := 0) rfl ?_
          refine zp_call (pc := 58) (how := 0) (idx := 382) (mi := 215) (S := []) hx hb hE hw heff hrm (zX_la hW) rfl (j := 17) rfl rfl (by decide +kernel) (zd_X12_law (58, .invokevirtual 382, 3, 0, []) (List.mem_of_getElem? (i := 31) rfl)) [(a : Int)] rfl ⟨zp_o2 hp, trivial⟩ (Nat.le_of_ble_eq_true rfl) hinn (fun al hal rnl Pl Gl hextl hfrl hokl hcsl hpsil => ?_)
          obtain rfl := List.mem_singleton.mp hal
          obtain ⟨rfl, hl1, hl2, hl3⟩ := hpsil
          have hl1 : zl_in a Gl := hl1
          have hl2 : Gn a 14 ≤ Gl a 14 := hl2
          refine zp_goto (tgt := 37) (pc := 61) hx hb (zd_X12_law (61, .goto (-24), 3, 0, []) (List.mem_of_getElem? (i := 32) rfl)) rfl ?_
          exact ih Gl (by omega) hnl6 hl1 (fun k => (zp_nc hfrl hq3 rfl k).trans ((zp_nc hfrn hq3 rfl k).trans (z3 k))) (((zp_nf hfrl hp rfl).trans ((zp_nf hfrn hp rfl).trans g3))) (((zp_nf hfrl hp rfl).trans ((zp_nf hfrn hp rfl).trans g22))) (((zp_nf hfrl hp rfl).trans ((zp_nf hfrn hp rfl).trans g24))) (((zp_nf hfrl hp rfl).trans ((zp_nf hfrn hp rfl).trans g25)))
  refine zp_load (pc := 0) hx hb (zd_X12_law (0, .aload_n 0, 1, 0, []) (List.mem_of_getElem? (i := 0) rfl)) rfl (j := 0) rfl ?_
  refine zp_const (pc := 1) hx hb (zd_X12_law (1, .iconst 0, 1, 0, []) (List.mem_of_getElem? (i := 1) rfl)) rfl rfl ?_
  refine zp_putf (pc := 2) hx hb hE hw heff (zd_X12_law (2, .putfield 161, 3, 0, []) (List.mem_of_getElem? (i := 2) rfl)) (j := 18) rfl rfl rfl hp (zp_o0 (by decide) (by decide) (by decide) (by decide)) ?_
  refine zp_load (pc := 5) hx hb (zd_X12_law (5, .aload_n 0, 1, 0, []) (List.mem_of_getElem? (i := 3) rfl)) rfl (j := 0) rfl ?_
  refine zp_getf (n := (b3 : Int)) (pc := 6) hx hb hE hw (zd_X12_law (6, .getfield 13, 3, 0, []) (List.mem_of_getElem? (i := 4) rfl)) (j := 21) rfl rfl rfl hp ((zp_set_ne (Or.inr (by decide))).trans (hb3)) ?_
  refine zp_const (pc := 9) hx hb (zd_X12_law (9, .iconst 3, 1, 0, []) (List.mem_of_getElem? (i := 5) rfl)) rfl rfl ?_
  refine zp_ialdT (j := 3) (v := (nl : Int)) (pc := 10) hx hb hw (zd_X12_law (10, .iaload, 1, 0, []) (List.mem_of_getElem? (i := 6) rfl)) zl_T59 rfl (zl_kd 3) hq3 rfl (show 3 < 5580 by decide) ((zp_set_ne (Or.inl (zp_pne hq3 hp (by decide)))).trans (hnl)) (fun hk196 => ?_)
  rw [zl_f3] at hk196
  have hk196b := zp_int hk196
  refine zp_const (pc := 11) hx hb (zd_X12_law (11, .bipush 6, 2, 0, []) (List.mem_of_getElem? (i := 7) rfl)) rfl rfl ?_
  refine zp_icmp (pc := 13) (tgt := 28) hx hb (zd_X12_law (13, .if_icmp .ne 15, 3, 0, []) (List.mem_of_getElem? (i := 8) rfl)) rfl (fun (hc197 : ¬ (nl : Int) = 6) => ?_) (fun (hc197 : ¬ (¬ (nl : Int) = 6)) => ?_)
  · refine zp_load (pc := 28) hx hb (zd_X12_law (28, .aload_n 0, 1, 0, []) (List.mem_of_getElem? (i := 16) rfl)) rfl (j := 0) rfl ?_
    refine zp_const (pc := 29) hx hb (zd_X12_law (29, .iconst 0, 1, 0, []) (List.mem_of_getElem? (i := 17) rfl)) rfl rfl ?_
    refine zp_call (pc := 30) (how := 0) (idx := 379) (mi := 210) (S := []) hx hb hE hw heff hrm (zX_bx hW) rfl (j := 12) rfl rfl (by decide +kernel) (zd_X12_law (30, .invokevirtual 379, 3, 0, []) (List.mem_of_getElem? (i := 18) rfl)) [(a : Int), 0] rfl ⟨zp_o2 hp, zp_o0 (by decide) (by decide) (by decide) (by decide), trivial⟩ (Nat.le_of_ble_eq_true rfl) trivial (fun al hal rnb Pb Gb hextb hfrb hokb hcsb hpsib => ?_)
    obtain rfl := List.mem_singleton.mp hal
    obtain ⟨rfl, y1, y2, y3, y4, y5⟩ := hpsib
    have y1 : zs_tk a Gb := y1
    have y2 : Gb a 19 = 0 := y2
    have y4 : Gb a 21 = 0 := y4
    have y5 : Gb a 23 = 0 := y5
    have hinb : zl_in a Gb := ⟨y1, by omega, by omega, by omega, by have := y1.1; omega, fun z c hc => by omega⟩
    refine zp_load (pc := 33) hx hb (zd_X12_law (33, .aload_n 0, 1, 0, []) (List.mem_of_getElem? (i := 19) rfl)) rfl (j := 0) rfl ?_
    refine zp_call (pc := 34) (how := 0) (idx := 382) (mi := 215) (S := []) hx hb hE hw heff hrm (zX_la hW) rfl (j := 17) rfl rfl (by decide +kernel) (zd_X12_law (34, .invokevirtual 382, 3, 0, []) (List.mem_of_getElem? (i := 20) rfl)) [(a : Int)] rfl ⟨zp_o2 hp, trivial⟩ (Nat.le_of_ble_eq_true rfl) hinb (fun al hal rnl Pl Gl hextl hfrl hokl hcsl hpsil => ?_)
    obtain rfl := List.mem_singleton.mp hal
    obtain ⟨rfl, hl1, hl2, hl3⟩ := hpsil
    have hl1 : zl_in a Gl := hl1
    have hq := hl1.1.1
    exact loop0 401 Gl (by omega) (by omega) hl1 (fun k => (zp_nc hfrl hq3 rfl k).trans ((zp_nc hfrb hq3 rfl k).trans (zp_set_ne (Or.inl (zp_pne hq3 hp (by decide)))))) (((zp_nf hfrl hp rfl).trans ((zp_nf hfrb hp rfl).trans ((zp_set_ne (Or.inr (by decide))).trans (hb3))))) (((zp_nf hfrl hp rfl).trans ((zp_nf hfrb hp rfl).trans ((zp_set_ne (Or.inr (by decide))).trans (hb22))))) (((zp_nf hfrl hp rfl).trans ((zp_nf hfrb hp rfl).trans ((zp_set_ne (Or.inr (by decide))).trans (hb24))))) (((zp_nf hfrl hp rfl).trans ((zp_nf hfrb hp rfl).trans ((zp_set_ne (Or.inr (by decide))).trans (hb25)))))
  · refine zp_load (pc := 16) hx hb (zd_X12_law (16, .aload_n 0, 1, 0, []) (List.mem_of_getElem? (i := 9) rfl)) rfl (j := 0) rfl ?_
    refine zp_const (pc := 17) hx hb (zd_X12_law (17, .iconst 0, 1, 0, []) (List.mem_of_getElem? (i := 10) rfl)) rfl rfl ?_
    refine zp_putf (pc := 18) hx hb hE hw heff (zd_X12_law (18, .putfield 228, 3, 0, []) (List.mem_of_getElem? (i := 11) rfl)) (j := 31) rfl rfl rfl hp (zp_o0 (by decide) (by decide) (by decide) (by decide)) ?_
    refine zp_load (pc := 21) hx hb (zd_X12_law (21, .aload_n 0, 1, 0, []) (List.mem_of_getElem? (i := 12) rfl)) rfl (j := 0) rfl ?_
    refine zp_const (pc := 22) hx hb (zd_X12_law (22, .bipush (-5), 2, 0, []) (List.mem_of_getElem? (i := 13) rfl)) rfl rfl ?_
    refine zp_call (pc := 24) (how := 0) (idx := 170) (mi := 183) (S := []) hx hb hE hw heff hrm (zX_te hW) rfl (j := 0) rfl rfl (by decide +kernel) (zd_X12_law (24, .invokevirtual 170, 3, 0, []) (List.mem_of_getElem? (i := 14) rfl)) [(a : Int), (-5)] rfl ⟨zp_o2 hp, zp_o0 (by omega) (by omega) (by omega) (by omega), trivial⟩ (Nat.le_of_ble_eq_true rfl) trivial (fun al hal rnt Pt Gt hextt hfrt hokt hcst hpsit => ?_)
    obtain rfl := List.mem_singleton.mp hal
    have hrt := zp_int (hokt _ rfl).1
    obtain ⟨rfl, hrnt⟩ := hpsit
    have hrnt : rnt = (-5) := hrnt
    refine zp_iret (pc := 27) (n := rnt) hx hb hE hQ hU5 rfl (by decide) (zd_X12_law (27, .ireturn, 1, 0, []) (List.mem_of_getElem? (i := 15) rfl)) (j := 0) rfl (zp_o0 (by omega) (by omega) (by omega) (by omega)) ?_
    rw [hps]
    refine ⟨rfl, ?_, ?_⟩
    · show Gt a 20 = 0
      exact (((zp_nf hfrt hp rfl).trans ((zp_set_ne (Or.inr (by decide))).trans ((zp_set_ne (Or.inr (by decide))))))).trans hφ
    · show Gt a 13 = 0
      exact ((zp_nf hfrt hp rfl).trans zp_set_self)
def zψ_or2 : (Nat → Option Nat) → (Nat → Nat → Int) → List Int → (Nat → Option Nat) → (Nat → Nat → Int) → Int → Prop := fun P G ps P' G' rn => G' (zp_0 ps) 20 = 0 ∧ G' (zp_0 ps) 13 = 0
theorem zX_or2 {l : Launch} {w : zk_W} (hW : zh_W w) : zk_metX l w zt_dv zt_TB zK_or (zp_A zφ_or) (zp_B zψ_or2) ∧ zk_cok w zt_TB zK_or := by
  refine zp_meth hW (pl := 2003) rfl (by decide +kernel) (fun p e R s m args below meth c Q u hx hb hE hQ hU5 heff hnL hok hφ => ?_)
  have hw := hW.1
  obtain ⟨p0, hps, k0⟩ := zp_ps1 hok
  obtain ⟨a, rfl, hp⟩ := zp_this k0
  have hrm : zk_Kr (zk_ev (zp_E zK_or)) = zk_Kr zK_or := rfl
  rw [hps] at hφ ⊢
  have hφ : zp_n u.2.1 a 20 = 0 := hφ
  show zp_J p l e R s m args below meth c Q w u [] 0 [(0, 2, (a : Int))] [] u.1 (zp_n u.2.1)
  refine zp_kn (k := 6) (a := a) hw (show zp_fd 92 6 = some (12, 2, 62, 0, 0) from rfl) rfl hp (fun hk6 => ?_)
  obtain ⟨b6, hb6, hq6⟩ := zp_this hk6
  refine zp_kn (k := 7) (a := a) hw (show zp_fd 92 7 = some (12, 2, 63, 0, 0) from rfl) rfl hp (fun hk7 => ?_)
  obtain ⟨b7, hb7, hq7⟩ := zp_this hk7
  refine zp_kn (k := 9) (a := a) hw (show zp_fd 92 9 = some (12, 2, 64, 0, 0) from rfl) rfl hp (fun hk9 => ?_)
  obtain ⟨b9, hb9, hq9⟩ := zp_this hk9
  refine zp_kn (k := 10) (a := a) hw (show zp_fd 92 10 = some (12, 2, 65, 0, 0) from rfl) rfl hp (fun hk10 => ?_)
  obtain ⟨b10, hb10, hq10⟩ := zp_this hk10
  refine zp_kn (k := 24) (a := a) hw (show zp_fd 92 24 = some (12, 2, 68, 0, 0) from rfl) rfl hp (fun hk24 => ?_)
  obtain ⟨b24, hb24, hq24⟩ := zp_this hk24
  refine zp_kn (k := 25) (a := a) hw (show zp_fd 92 25 = some (12, 2, 69, 0, 0) from rfl) rfl hp (fun hk25 => ?_)
  obtain ⟨b25, hb25, hq25⟩ := zp_this hk25
  refine zp_kn (k := 56) (a := a) hw (show zp_fd 92 56 = some (12, 2, 90, 0, 0) from rfl) rfl hp (fun hk56 => ?_)
  obtain ⟨b56, hb56, hq56⟩ := zp_this hk56
  have runs : ∀ (n i nu ncl : Nat) (P : Nat → Option Nat) (G : Nat → Nat → Int), ncl - i < n → i ≤ ncl → nu ≤ 16 → zo_or a b24 b25 b56 ncl P G → G a 13 = 0 → 0 ≤ G a 57 → G a 57 ≤ 20 * (i : Int) → zp_J p l e R s m args below meth c Q w u [] 140 [(2, 0, (i : Int)), (1, 0, (nu : Int)), (0, 2, (a : Int))] [] P G := by
    intro n
    induction n with
    | zero => intro i nu ncl P G h; exact absurd h (Nat.not_lt_zero _)
    | succ n ih =>
      intro i nu ncl P G hn hi hnu hor h13 hd0 hd1
      have inner : ∀ (k : Nat) (kk : Nat) (P : Nat → Option Nat) (G : Nat → Nat → Int), i < ncl → (zv G a 56 (8 * i + 7) - (kk : Int)).toNat < k → zo_or a b24 b25 b56 ncl P G → G a 13 = 0 → 0 ≤ G a 57 → G a 57 ≤ 20 * (i : Int) + (kk : Int) → kk ≤ 20 → zp_J p l e R s m args below meth c Q w u [] 150 [(3, 0, (kk : Int)), (2, 0, (i : Int)), (1, 0, (nu : Int)), (0, 2, (a : Int))] [] P G := by
        intro k
        induction k with
        | zero => intro kk P G h1 h; exact absurd h (Nat.not_lt_zero _)
        | succ k ihk =>
          intro kk P G hin hk hor h13 hd0 hd1 hd2
          have hor1 := hor
          obtain ⟨r0, r1, r2, r3, e24, e25, e56, e20, e19, e21, hncl, hprs⟩ := hor1
          have hct := (hprs i hin).2.2.2
          have hv7 : zv G a 56 (8 * i + 7) = G b56 (2000 + (8 * i + 7)) := zv_eq e56 _
          rw [hv7] at hk hct
          refine zp_load (pc := 150) hx hb (zd_X12_orders (150, .iload_n 3, 1, 0, []) (List.mem_of_getElem? (i := 82) rfl)) rfl (j := 0) rfl ?_
          refine zp_load (pc := 151) hx hb (zd_X12_orders (151, .aload_n 0, 1, 0, []) (List.mem_of_getElem? (i := 83) rfl)) rfl (j := 3) rfl ?_
          refine zp_getf (n := (b56 : Int)) (pc := 152) hx hb hE hw (zd_X12_orders (152, .getfield 149, 3, 0, []) (List.mem_of_getElem? (i := 84) rfl)) (j := 74) rfl rfl rfl r0 e56 ?_
          refine zp_const (pc := 155) hx hb (zd_X12_orders (155, .bipush 8, 2, 0, []) (List.mem_of_getElem? (i := 85) rfl)) rfl rfl ?_
          refine zp_load (pc := 157) hx hb (zd_X12_orders (157, .iload_n 2, 1, 0, []) (List.mem_of_getElem? (i := 86) rfl)) rfl (j := 1) rfl ?_
          refine zp_mul (n := (8 * (i : Int))) (pc := 158) hx hb (zd_X12_orders (158, .imul, 1, 0, []) (List.mem_of_getElem? (i := 87) rfl)) (by omega) (zp_r0 (by omega) (by omega)) ?_
          refine zp_const (pc := 159) hx hb (zd_X12_orders (159, .bipush 7, 2, 0, []) (List.mem_of_getElem? (i := 88) rfl)) rfl rfl ?_
          refine zp_add (n := (8 * (i : Int) + 7)) (pc := 161) hx hb (zd_X12_orders (161, .iadd, 1, 0, []) (List.mem_of_getElem? (i := 89) rfl)) (by omega) (zp_r0 (by omega) (by omega)) ?_
          refine zp_iald (j := (8 * i + 7)) (v := (G b56 (2000 + (8 * i + 7)))) (pc := 162) hx hb hw (zd_X12_orders (162, .iaload, 1, 0, []) (List.mem_of_getElem? (i := 90) rfl)) (show zp_ia 1 90 = some (96, 0, 0, (-2147483648), 2147483647) from rfl) r3 (by omega) (by omega) rfl (fun hk231 => ?_)
          have hk231b := zp_int hk231
          refine zp_icmp (pc := 163) (tgt := 200) hx hb (zd_X12_orders (163, .if_icmp .ge 37, 3, 0, []) (List.mem_of_getElem? (i := 91) rfl)) rfl (fun (hc232 : (G b56 (2000 + (8 * i + 7))) ≤ (kk : Int)) => ?_) (fun (hc232 : ¬ ((G b56 (2000 + (8 * i + 7))) ≤ (kk : Int))) => ?_)
          · refine zp_iinc (L' := [(2, 0, ((i : Int) + 1)), (3, 0, (kk : Int)), (1, 0, (nu : Int)), (0, 2, (a : Int))]) (n := ((i : Int) + 1)) (pc := 200) hx hb hnL (zd_X12_orders (200, .iinc 2 1, 3, 0, []) (List.mem_of_getElem? (i := 110) rfl)) (j := 1) rfl (by omega) (zp_r0 (by omega) (by omega)) rfl rfl ?_
            refine zp_goto (tgt := 140) (pc := 203) hx hb (zd_X12_orders (203, .goto (-63), 3, 0, []) (List.mem_of_getElem? (i := 111) rfl)) rfl ?_
            refine zp_drop (L' := [(2, 0, ((i : Int) + 1)), (1, 0, (nu : Int)), (0, 2, (a : Int))]) (by simp) ?_
            exact ih (i + 1) nu ncl P G (by omega) (by omega) hnu hor h13 hd0 (by omega)
          · refine zp_load (pc := 166) hx hb (zd_X12_orders (166, .aload_n 0, 1, 0, []) (List.mem_of_getElem? (i := 92) rfl)) rfl (j := 3) rfl ?_
            refine zp_const (pc := 167) hx hb (zd_X12_orders (167, .bipush 8, 2, 0, []) (List.mem_of_getElem? (i := 93) rfl)) rfl rfl ?_
            refine zp_load (pc := 169) hx hb (zd_X12_orders (169, .iload_n 2, 1, 0, []) (List.mem_of_getElem? (i := 94) rfl)) rfl (j := 1) rfl ?_
            refine zp_mul (n := (8 * (i : Int))) (pc := 170) hx hb (zd_X12_orders (170, .imul, 1, 0, []) (List.mem_of_getElem? (i := 95) rfl)) (by omega) (zp_r0 (by omega) (by omega)) ?_
            have hca : (8 * (i : Int)).toNat = 8 * i := by omega
            refine zp_call (pc := 171) (how := 0) (idx := 552) (mi := 290) (S := []) hx hb hE hw heff hrm (zX_ro1 hW) rfl (j := 71) rfl rfl (by decide +kernel) (zd_X12_orders (171, .invokevirtual 552, 3, 0, []) (List.mem_of_getElem? (i := 96) rfl)) [(a : Int), (8 * (i : Int))] rfl ⟨zp_o2 r0, zp_o0 (by omega) (by omega) (by omega) (by omega), trivial⟩ (Nat.le_of_ble_eq_true rfl) (show (∃ b24 b25 b56, zo_ru a b24 b25 b56 (8 * (i : Int)).toNat (G a 57) P G) ∧ 0 ≤ G a 57 ∧ G a 57 ≤ 100000 from ⟨⟨b24, b25, b56, by rw [hca]; exact zo_or_ru hor hin⟩, hd0, by omega⟩) (fun al hal rnr Pr Gr hextr hfrr hokr hcsr hpsir => ?_)
            obtain rfl := List.mem_singleton.mp hal
            have hrr := zp_int (hokr _ rfl).1
            have hzr3 : Gr a 20 = 0 ∧ 0 ≤ Gr a 57 ∧ Gr a 57 ≤ G a 57 + 1 := hpsir
            obtain ⟨hzr, hzd0, hzd1⟩ := hzr3
            have orr := zo_or_fr hor hextr hfrr (by decide +kernel) hzr
            have h13r : Gr a 13 = 0 := (zp_nf hfrr r0 (by decide +kernel)).trans h13
            refine zp_if (pc := 174) (tgt := 194) hx hb (zd_X12_orders (174, .ifCond .ge 20, 3, 0, []) (List.mem_of_getElem? (i := 97) rfl)) rfl (fun (hc233 : 0 ≤ rnr) => ?_) (fun (hc233 : ¬ (0 ≤ rnr)) => ?_)
            · refine zp_iinc (L' := [(3, 0, ((kk : Int) + 1)), (2, 0, (i : Int)), (1, 0, (nu : Int)), (0, 2, (a : Int))]) (n := ((kk : Int) + 1)) (pc := 194) hx hb hnL (zd_X12_orders (194, .iinc 3 1, 3, 0, []) (List.mem_of_getElem? (i := 108) rfl)) (j := 0) rfl (by omega) (zp_r0 (by omega) (by omega)) rfl rfl ?_
              refine zp_goto (tgt := 150) (pc := 197) hx hb (zd_X12_orders (197, .goto (-47), 3, 0, []) (List.mem_of_getElem? (i := 109) rfl)) rfl ?_
              have hv8 : zv Gr a 56 (8 * i + 7) = G b56 (2000 + (8 * i + 7)) := by rw [zv_eq orr.2.2.2.2.2.2.1]; exact zp_nc hfrr r3 (by decide +kernel) _
              exact ihk (kk + 1) Pr Gr hin (by rw [hv8]; omega) orr h13r hzd0 (by omega) (by omega)
            · refine zp_load (pc := 177) hx hb (zd_X12_orders (177, .aload_n 0, 1, 0, []) (List.mem_of_getElem? (i := 98) rfl)) rfl (j := 3) rfl ?_
              refine zp_load (pc := 178) hx hb (zd_X12_orders (178, .iload_n 1, 1, 0, []) (List.mem_of_getElem? (i := 99) rfl)) rfl (j := 2) rfl ?_
              refine zp_call (pc := 179) (how := 0) (idx := 555) (mi := 292) (S := []) hx hb hE hw heff hrm (zX_gb hW) rfl (j := 73) rfl rfl (by decide +kernel) (zd_X12_orders (179, .invokevirtual 555, 3, 0, []) (List.mem_of_getElem? (i := 100) rfl)) [(a : Int), (nu : Int)] rfl ⟨zp_o2 orr.1, zp_o0 (by omega) (by omega) (by omega) (by omega), trivial⟩ (Nat.le_of_ble_eq_true rfl) hzr (fun al hal rng Pg Gg hextg hfrg hokg hcsg hpsig => ?_)
              obtain rfl := List.mem_singleton.mp hal
              have hzg : Gg a 20 = 0 := hpsig
              have hpg : Pg a = some 92 := hextg _ _ orr.1
              have h13g : Gg a 13 = 0 := (zp_nf hfrg orr.1 (by decide +kernel)).trans h13r
              refine zp_load (pc := 182) hx hb (zd_X12_orders (182, .aload_n 0, 1, 0, []) (List.mem_of_getElem? (i := 101) rfl)) rfl (j := 3) rfl ?_
              refine zp_load (pc := 183) hx hb (zd_X12_orders (183, .iload_n 2, 1, 0, []) (List.mem_of_getElem? (i := 102) rfl)) rfl (j := 1) rfl ?_
              refine zp_putf (pc := 184) hx hb hE hw heff (zd_X12_orders (184, .putfield 152, 3, 0, []) (List.mem_of_getElem? (i := 103) rfl)) (j := 77) rfl rfl rfl hpg (zp_o0 (by omega) (by omega) (by omega) (by omega)) ?_
              refine zp_load (pc := 187) hx hb (zd_X12_orders (187, .aload_n 0, 1, 0, []) (List.mem_of_getElem? (i := 104) rfl)) rfl (j := 3) rfl ?_
              refine zp_const (pc := 188) hx hb (zd_X12_orders (188, .bipush (-3), 2, 0, []) (List.mem_of_getElem? (i := 105) rfl)) rfl rfl ?_
              have z20 : (zp_set Gg a 59 (i : Int)) a 20 = 0 := ((zp_set_ne (Or.inr (by decide))).trans (hzg))
              have z13 : (zp_set Gg a 59 (i : Int)) a 13 = 0 := ((zp_set_ne (Or.inr (by decide))).trans (h13g))
              refine zp_call (pc := 190) (how := 0) (idx := 170) (mi := 183) (S := []) hx hb hE hw heff hrm (zX_te hW) rfl (j := 0) rfl rfl (by decide +kernel) (zd_X12_orders (190, .invokevirtual 170, 3, 0, []) (List.mem_of_getElem? (i := 106) rfl)) [(a : Int), (-3)] rfl ⟨zp_o2 hpg, zp_o0 (by omega) (by omega) (by omega) (by omega), trivial⟩ (Nat.le_of_ble_eq_true rfl) trivial (fun al hal rnt Pt Gt hextt hfrt hokt hcst hpsit => ?_)
              obtain rfl := List.mem_singleton.mp hal
              have hrt := zp_int (hokt _ rfl).1
              obtain ⟨rfl, hrnt⟩ := hpsit
              have hrnt : rnt = (-3) := hrnt
              have zzt : Gt a 20 = 0 := (zp_nf hfrt hpg rfl).trans z20
              have zyt : Gt a 13 = 0 := (zp_nf hfrt hpg rfl).trans z13
              refine zp_iret (pc := 193) (n := rnt) hx hb hE hQ hU5 rfl (by decide) (zd_X12_orders (193, .ireturn, 1, 0, []) (List.mem_of_getElem? (i := 107) rfl)) (j := 0) rfl (zp_o0 (by omega) (by omega) (by omega) (by omega)) ?_
              rw [hps]
              exact (show Gt a 20 = 0 ∧ Gt a 13 = 0 from ⟨zzt, zyt⟩)
      have hor1 := hor
      obtain ⟨r0, r1, r2, r3, e24, e25, e56, e20, e19, e21, hncl, hprs⟩ := hor1
      refine zp_kn (k := 57) (a := a) (G := G) hw (show zp_fd 92 57 = some (12, 0, 0, (-2147483648), 2147483647) from rfl) rfl r0 (fun hk57 => ?_)
      have hx57 := zp_int hk57
      refine zp_load (pc := 140) hx hb (zd_X12_orders (140, .iload_n 2, 1, 0, []) (List.mem_of_getElem? (i := 76) rfl)) rfl (j := 0) rfl ?_
      refine zp_load (pc := 141) hx hb (zd_X12_orders (141, .aload_n 0, 1, 0, []) (List.mem_of_getElem? (i := 77) rfl)) rfl (j := 2) rfl ?_
      refine zp_getf (n := (ncl : Int)) (pc := 142) hx hb hE hw (zd_X12_orders (142, .getfield 371, 3, 0, []) (List.mem_of_getElem? (i := 78) rfl)) (j := 39) rfl rfl rfl r0 e21 ?_
      refine zp_icmp (pc := 145) (tgt := 206) hx hb (zd_X12_orders (145, .if_icmp .ge 61, 3, 0, []) (List.mem_of_getElem? (i := 79) rfl)) rfl (fun (hc234 : (ncl : Int) ≤ (i : Int)) => ?_) (fun (hc234 : ¬ ((ncl : Int) ≤ (i : Int))) => ?_)
      · refine zp_load (pc := 206) hx hb (zd_X12_orders (206, .aload_n 0, 1, 0, []) (List.mem_of_getElem? (i := 112) rfl)) rfl (j := 2) rfl ?_
        refine zp_load (pc := 207) hx hb (zd_X12_orders (207, .aload_n 0, 1, 0, []) (List.mem_of_getElem? (i := 113) rfl)) rfl (j := 2) rfl ?_
        refine zp_getf (n := (G a 57)) (pc := 208) hx hb hE hw (zd_X12_orders (208, .getfield 540, 3, 0, []) (List.mem_of_getElem? (i := 114) rfl)) (j := 75) rfl rfl rfl r0 rfl ?_
        have z20 : G a 20 = 0 := e20
        have z13 : G a 13 = 0 := h13
        refine zp_call (pc := 211) (how := 0) (idx := 170) (mi := 183) (S := []) hx hb hE hw heff hrm (zX_te hW) rfl (j := 0) rfl rfl (by decide +kernel) (zd_X12_orders (211, .invokevirtual 170, 3, 0, []) (List.mem_of_getElem? (i := 115) rfl)) [(a : Int), (G a 57)] rfl ⟨zp_o2 r0, zp_o0 (by omega) (by omega) (by omega) (by omega), trivial⟩ (Nat.le_of_ble_eq_true rfl) trivial (fun al hal rnt Pt Gt hextt hfrt hokt hcst hpsit => ?_)
        obtain rfl := List.mem_singleton.mp hal
        have hrt := zp_int (hokt _ rfl).1
        obtain ⟨rfl, hrnt⟩ := hpsit
        have hrnt : rnt = (G a 57) := hrnt
        have zzt : Gt a 20 = 0 := (zp_nf hfrt r0 rfl).trans z20
        have zyt : Gt a 13 = 0 := (zp_nf hfrt r0 rfl).trans z13
        refine zp_iret (pc := 214) (n := rnt) hx hb hE hQ hU5 rfl (by decide) (zd_X12_orders (214, .ireturn, 1, 0, []) (List.mem_of_getElem? (i := 116) rfl)) (j := 0) rfl (zp_o0 (by omega) (by omega) (by omega) (by omega)) ?_
        rw [hps]
        exact (show Gt a 20 = 0 ∧ Gt a 13 = 0 from ⟨zzt, zyt⟩)
      · refine zp_const (pc := 148) hx hb (zd_X12_orders (148, .iconst 0, 1, 0, []) (List.mem_of_getElem? (i := 80) rfl)) rfl rfl ?_
        refine zp_store (L' := [(3, 0, 0), (2, 0, (i : Int)), (1, 0, (nu : Int)), (0, 2, (a : Int))]) (pc := 149) hx hb hnL (zd_X12_orders (149, .istore_n 3, 1, 0, []) (List.mem_of_getElem? (i := 81) rfl)) rfl rfl rfl ?_
        exact inner _ 0 P G (by omega) (Nat.lt_succ_self _) hor h13 hd0 (by omega) (by omega)
  have loop1 : ∀ (n i nu : Nat) (ncl : Nat) (P : Nat → Option Nat) (Gp G : Nat → Nat → Int), 16 - i < n → i ≤ 16 → nu ≤ 16 → P b6 = some 62 → P b7 = some 63 → P b9 = some 64 → P b10 = some 65 → Gp a 6 = (b6 : Int) → Gp a 7 = (b7 : Int) → Gp a 9 = (b9 : Int) → Gp a 10 = (b10 : Int) → (∀ k, G a k = Gp a k) → zo_or a b24 b25 b56 ncl P G → G a 13 = 0 → zp_J p l e R s m args below meth c Q w u [] 104 [(2, 0, (i : Int)), (1, 0, (nu : Int)), (0, 2, (a : Int))] [] P G := by
    intro n
    induction n with
    | zero => intro i nu ncl P Gp G h; exact absurd h (Nat.not_lt_zero _)
    | succ n ih =>
      intro i nu ncl P Gp G hn hi hnu q6 q7 q9 q10 g6 g7 g9 g10 za hor h13
      have hor1 := hor
      obtain ⟨r0, r1, r2, r3, e24, e25, e56, e20, e19, e21, hncl, hprs⟩ := hor1
      refine zp_load (pc := 104) hx hb (zd_X12_orders (104, .iload_n 2, 1, 0, []) (List.mem_of_getElem? (i := 55) rfl)) rfl (j := 0) rfl ?_
      refine zp_const (pc := 105) hx hb (zd_X12_orders (105, .bipush 16, 2, 0, []) (List.mem_of_getElem? (i := 56) rfl)) rfl rfl ?_
      refine zp_icmp (pc := 107) (tgt := 128) hx hb (zd_X12_orders (107, .if_icmp .ge 21, 3, 0, []) (List.mem_of_getElem? (i := 57) rfl)) rfl (fun (hc235 : 16 ≤ (i : Int)) => ?_) (fun (hc235 : ¬ (16 ≤ (i : Int))) => ?_)
      · refine zp_load (pc := 128) hx hb (zd_X12_orders (128, .aload_n 0, 1, 0, []) (List.mem_of_getElem? (i := 68) rfl)) rfl (j := 2) rfl ?_
        refine zp_const (pc := 129) hx hb (zd_X12_orders (129, .iconst 0, 1, 0, []) (List.mem_of_getElem? (i := 69) rfl)) rfl rfl ?_
        refine zp_putf (pc := 130) hx hb hE hw heff (zd_X12_orders (130, .putfield 540, 3, 0, []) (List.mem_of_getElem? (i := 70) rfl)) (j := 75) rfl rfl rfl r0 (zp_o0 (by decide) (by decide) (by decide) (by decide)) ?_
        refine zp_load (pc := 133) hx hb (zd_X12_orders (133, .aload_n 0, 1, 0, []) (List.mem_of_getElem? (i := 71) rfl)) rfl (j := 2) rfl ?_
        refine zp_const (pc := 134) hx hb (zd_X12_orders (134, .iconst (-1), 1, 0, []) (List.mem_of_getElem? (i := 72) rfl)) rfl rfl ?_
        refine zp_putf (pc := 135) hx hb hE hw heff (zd_X12_orders (135, .putfield 543, 3, 0, []) (List.mem_of_getElem? (i := 73) rfl)) (j := 76) rfl rfl rfl r0 (zp_o0 (by decide) (by decide) (by decide) (by decide)) ?_
        refine zp_const (pc := 138) hx hb (zd_X12_orders (138, .iconst 0, 1, 0, []) (List.mem_of_getElem? (i := 74) rfl)) rfl rfl ?_
        refine zp_store (L' := [(2, 0, 0), (1, 0, (nu : Int)), (0, 2, (a : Int))]) (pc := 139) hx hb hnL (zd_X12_orders (139, .istore_n 2, 1, 0, []) (List.mem_of_getElem? (i := 75) rfl)) rfl rfl rfl ?_
        have z57 : (zp_set (zp_set G a 57 0) a 58 (-1)) a 57 = 0 := ((zp_set_ne (Or.inr (by decide))).trans (zp_set_self))
        exact runs (ncl + 1) 0 nu ncl P _ (by omega) (by omega) hnu (zo_or_set (k := 58) (zo_or_set (k := 57) hor r0 rfl) r0 rfl) (((zp_set_ne (Or.inr (by decide))).trans ((zp_set_ne (Or.inr (by decide))).trans (h13)))) (by omega) (by omega)
      · refine zp_load (pc := 110) hx hb (zd_X12_orders (110, .aload_n 0, 1, 0, []) (List.mem_of_getElem? (i := 58) rfl)) rfl (j := 2) rfl ?_
        refine zp_getf (n := (b10 : Int)) (pc := 111) hx hb hE hw (zd_X12_orders (111, .getfield 32, 3, 0, []) (List.mem_of_getElem? (i := 59) rfl)) (j := 28) rfl rfl rfl r0 ((za 10).trans g10) ?_
        refine zp_load (pc := 114) hx hb (zd_X12_orders (114, .iload_n 2, 1, 0, []) (List.mem_of_getElem? (i := 60) rfl)) rfl (j := 0) rfl ?_
        refine zp_load (pc := 115) hx hb (zd_X12_orders (115, .aload_n 0, 1, 0, []) (List.mem_of_getElem? (i := 61) rfl)) rfl (j := 2) rfl ?_
        refine zp_getf (n := (b7 : Int)) (pc := 116) hx hb hE hw (zd_X12_orders (116, .getfield 26, 3, 0, []) (List.mem_of_getElem? (i := 62) rfl)) (j := 25) rfl rfl rfl r0 ((za 7).trans g7) ?_
        refine zp_load (pc := 119) hx hb (zd_X12_orders (119, .iload_n 2, 1, 0, []) (List.mem_of_getElem? (i := 63) rfl)) rfl (j := 0) rfl ?_
        refine zp_iald (j := i) (v := (G b7 (2000 + i))) (pc := 120) hx hb hw (zd_X12_orders (120, .iaload, 1, 0, []) (List.mem_of_getElem? (i := 64) rfl)) (show zp_ia 1 63 = some (16, 0, 0, 0, 3) from rfl) q7 (by omega) (by omega) rfl (fun hk236 => ?_)
        have hk236b := zp_int hk236
        refine zp_iast (j := i) (pc := 121) hx hb hw heff (zd_X12_orders (121, .iastore, 1, 0, []) (List.mem_of_getElem? (i := 65) rfl)) (show zp_ia 1 65 = some (16, 0, 0, 0, 3) from rfl) q10 (by omega) (by omega) (zp_o0 (by omega) (by omega) (by omega) (by omega)) rfl ?_
        refine zp_iinc (L' := [(2, 0, ((i : Int) + 1)), (1, 0, (nu : Int)), (0, 2, (a : Int))]) (n := ((i : Int) + 1)) (pc := 122) hx hb hnL (zd_X12_orders (122, .iinc 2 1, 3, 0, []) (List.mem_of_getElem? (i := 66) rfl)) (j := 0) rfl (by omega) (zp_r0 (by omega) (by omega)) rfl rfl ?_
        refine zp_goto (tgt := 104) (pc := 125) hx hb (zd_X12_orders (125, .goto (-21), 3, 0, []) (List.mem_of_getElem? (i := 67) rfl)) rfl ?_
        exact ih (i + 1) nu ncl P Gp _ (by omega) (by omega) hnu q6 q7 q9 q10 g6 g7 g9 g10 (fun k => (zp_set_ne (Or.inl (zp_pne r0 q10 (by decide)))).trans (za k)) (zo_or_set (k := 2000 + i) hor q10 (by simp [zo_sb])) ((zp_set_ne (Or.inl (zp_pne r0 q10 (by decide)))).trans h13)
  have loop0 : ∀ (n i nu : Nat) (ncl : Nat) (P : Nat → Option Nat) (Gp G : Nat → Nat → Int), 544 - i < n → i ≤ 544 → nu ≤ 16 → P b6 = some 62 → P b7 = some 63 → P b9 = some 64 → P b10 = some 65 → Gp a 6 = (b6 : Int) → Gp a 7 = (b7 : Int) → Gp a 9 = (b9 : Int) → Gp a 10 = (b10 : Int) → (∀ k, G a k = Gp a k) → zo_or a b24 b25 b56 ncl P G → G a 13 = 0 → zp_J p l e R s m args below meth c Q w u [] 77 [(2, 0, (i : Int)), (1, 0, (nu : Int)), (0, 2, (a : Int))] [] P G := by
    intro n
    induction n with
    | zero => intro i nu ncl P Gp G h; exact absurd h (Nat.not_lt_zero _)
    | succ n ih =>
      intro i nu ncl P Gp G hn hi hnu q6 q7 q9 q10 g6 g7 g9 g10 za hor h13
      have hor1 := hor
      obtain ⟨r0, r1, r2, r3, e24, e25, e56, e20, e19, e21, hncl, hprs⟩ := hor1
      refine zp_load (pc := 77) hx hb (zd_X12_orders (77, .iload_n 2, 1, 0, []) (List.mem_of_getElem? (i := 40) rfl)) rfl (j := 0) rfl ?_
      refine zp_const (pc := 78) hx hb (zd_X12_orders (78, .sipush 544, 3, 0, []) (List.mem_of_getElem? (i := 41) rfl)) rfl rfl ?_
      refine zp_icmp (pc := 81) (tgt := 102) hx hb (zd_X12_orders (81, .if_icmp .ge 21, 3, 0, []) (List.mem_of_getElem? (i := 42) rfl)) rfl (fun (hc237 : 544 ≤ (i : Int)) => ?_) (fun (hc237 : ¬ (544 ≤ (i : Int))) => ?_)
      · refine zp_const (pc := 102) hx hb (zd_X12_orders (102, .iconst 0, 1, 0, []) (List.mem_of_getElem? (i := 53) rfl)) rfl rfl ?_
        refine zp_store (L' := [(2, 0, 0), (1, 0, (nu : Int)), (0, 2, (a : Int))]) (pc := 103) hx hb hnL (zd_X12_orders (103, .istore_n 2, 1, 0, []) (List.mem_of_getElem? (i := 54) rfl)) rfl rfl rfl ?_
        exact loop1 17 0 nu ncl P Gp G (by omega) (by omega) hnu q6 q7 q9 q10 g6 g7 g9 g10 za hor h13
      · refine zp_load (pc := 84) hx hb (zd_X12_orders (84, .aload_n 0, 1, 0, []) (List.mem_of_getElem? (i := 43) rfl)) rfl (j := 2) rfl ?_
        refine zp_getf (n := (b9 : Int)) (pc := 85) hx hb hE hw (zd_X12_orders (85, .getfield 29, 3, 0, []) (List.mem_of_getElem? (i := 44) rfl)) (j := 27) rfl rfl rfl r0 ((za 9).trans g9) ?_
        refine zp_load (pc := 88) hx hb (zd_X12_orders (88, .iload_n 2, 1, 0, []) (List.mem_of_getElem? (i := 45) rfl)) rfl (j := 0) rfl ?_
        refine zp_load (pc := 89) hx hb (zd_X12_orders (89, .aload_n 0, 1, 0, []) (List.mem_of_getElem? (i := 46) rfl)) rfl (j := 2) rfl ?_
        refine zp_getf (n := (b6 : Int)) (pc := 90) hx hb hE hw (zd_X12_orders (90, .getfield 23, 3, 0, []) (List.mem_of_getElem? (i := 47) rfl)) (j := 24) rfl rfl rfl r0 ((za 6).trans g6) ?_
        refine zp_load (pc := 93) hx hb (zd_X12_orders (93, .iload_n 2, 1, 0, []) (List.mem_of_getElem? (i := 48) rfl)) rfl (j := 0) rfl ?_
        refine zp_ialdT (j := i) (v := (G b6 (2000 + i))) (pc := 94) hx hb hw (zd_X12_orders (94, .iaload, 1, 0, []) (List.mem_of_getElem? (i := 49) rfl)) (T := zo_T62) rfl rfl (zo_kd _) q6 rfl (show i < 612 by omega) rfl (fun hrow => ?_)
        refine zp_iastT (j := i) (pc := 95) hx hb hw heff (zd_X12_orders (95, .iastore, 1, 0, []) (List.mem_of_getElem? (i := 50) rfl)) (T := zo_T64) rfl rfl (by rw [zo_fj]; exact zo_kd _) q9 rfl (show i < 544 by omega) (by omega) (by rw [zo_fj]; exact hrow) (Or.inr (by decide)) rfl ?_
        refine zp_iinc (L' := [(2, 0, ((i : Int) + 1)), (1, 0, (nu : Int)), (0, 2, (a : Int))]) (n := ((i : Int) + 1)) (pc := 96) hx hb hnL (zd_X12_orders (96, .iinc 2 1, 3, 0, []) (List.mem_of_getElem? (i := 51) rfl)) (j := 0) rfl (by omega) (zp_r0 (by omega) (by omega)) rfl rfl ?_
        refine zp_goto (tgt := 77) (pc := 99) hx hb (zd_X12_orders (99, .goto (-22), 3, 0, []) (List.mem_of_getElem? (i := 52) rfl)) rfl ?_
        exact ih (i + 1) nu ncl P Gp _ (by omega) (by omega) hnu q6 q7 q9 q10 g6 g7 g9 g10 (fun k => (zp_set_ne (Or.inl (zp_pne r0 q9 (by decide)))).trans (za k)) (zo_or_set (k := 2000 + i) hor q9 (by simp [zo_sb])) ((zp_set_ne (Or.inl (zp_pne r0 q9 (by decide)))).trans h13)
  have h46 : ∀ (G : Nat → Nat → Int), zo_in2 a G → G a 6 = (b6 : Int) → G a 7 = (b7 : Int) → G a 9 = (b9 : Int) → G a 10 = (b10 : Int) → G a 24 = (b24 : Int) → G a 25 = (b25 : Int) → G a 56 = (b56 : Int) → zp_J p l e R s m args below meth c Q w u [] 46 [(0, 2, (a : Int))] [] u.1 G := by
    intro G hin g6 g7 g9 g10 g24 g25 g56
    obtain ⟨⟨i1, i2, i3, i4, i5, i6⟩, i7⟩ := hin
    refine zp_load (pc := 46) hx hb (zd_X12_orders (46, .aload_n 0, 1, 0, []) (List.mem_of_getElem? (i := 23) rfl)) rfl (j := 0) rfl ?_
    refine zp_call (pc := 47) (how := 0) (idx := 385) (mi := 235) (S := []) hx hb hE hw heff hrm (zX_et2 hW) rfl (j := 37) rfl rfl (by decide +kernel) (zd_X12_orders (47, .invokevirtual 385, 3, 0, []) (List.mem_of_getElem? (i := 24) rfl)) [(a : Int)] rfl ⟨zp_o2 hp, trivial⟩ (Nat.le_of_ble_eq_true rfl) i1 (fun al hal rne Pe Ge hexte hfre hoke hcse hpsie => ?_)
    obtain rfl := List.mem_singleton.mp hal
    obtain ⟨rfl, he20, he19, he13⟩ := hpsie
    have he13 : Ge a 13 = 0 := he13
    have he20 : Ge a 20 = 0 := he20
    have he19 : Ge a 19 = 0 → G a 19 = 0 := he19
    refine zp_kn (k := 19) (a := a) (G := Ge) hw (show zp_fd 92 19 = some (12, 0, 0, 0, 1) from rfl) rfl hp (fun hk19 => ?_)
    have hx19 := zp_int hk19
    refine zp_load (pc := 50) hx hb (zd_X12_orders (50, .aload_n 0, 1, 0, []) (List.mem_of_getElem? (i := 25) rfl)) rfl (j := 0) rfl ?_
    refine zp_getf (n := (Ge a 19)) (pc := 51) hx hb hE hw (zd_X12_orders (51, .getfield 240, 3, 0, []) (List.mem_of_getElem? (i := 26) rfl)) (j := 37) rfl rfl rfl hp rfl ?_
    refine zp_if (pc := 54) (tgt := 64) hx hb (zd_X12_orders (54, .ifCond .eq 10, 3, 0, []) (List.mem_of_getElem? (i := 27) rfl)) rfl (fun (hc238 : (Ge a 19) = 0) => ?_) (fun (hc238 : ¬ ((Ge a 19) = 0)) => ?_)
    · have hb0 : Ge a 19 = 0 := by omega
      obtain ⟨ncl, hncl⟩ := zp_nat i2
      have e6 : Ge a 6 = (b6 : Int) := ((zp_nf hfre hp rfl).trans g6)
      have e7 : Ge a 7 = (b7 : Int) := ((zp_nf hfre hp rfl).trans g7)
      have e9 : Ge a 9 = (b9 : Int) := ((zp_nf hfre hp rfl).trans g9)
      have e10 : Ge a 10 = (b10 : Int) := ((zp_nf hfre hp rfl).trans g10)
      have e24 : Ge a 24 = (b24 : Int) := ((zp_nf hfre hp rfl).trans g24)
      have e25 : Ge a 25 = (b25 : Int) := ((zp_nf hfre hp rfl).trans g25)
      have e56 : Ge a 56 = (b56 : Int) := ((zp_nf hfre hp rfl).trans g56)
      have ev24 : ∀ j, zv Ge a 24 j = zv G a 24 j := fun j => by rw [zv_eq e24, zv_eq g24, zp_nc hfre hq24 rfl]
      have ev25 : ∀ j, zv Ge a 25 j = zv G a 25 j := fun j => by rw [zv_eq e25, zv_eq g25, zp_nc hfre hq25 rfl]
      have ev56 : ∀ j, zv Ge a 56 j = zv G a 56 j := fun j => by rw [zv_eq e56, zv_eq g56, zp_nc hfre hq56 rfl]
      have e23 : Ge a 23 = G a 23 := zp_nf hfre hp rfl
      have e19 : Ge a 19 = G a 19 := by rw [hb0, he19 hb0]
      have e21 : Ge a 21 = (ncl : Int) := (zp_nf hfre hp rfl).trans hncl
      have hor : zo_or a b24 b25 b56 ncl u.1 Ge := ⟨hp, hq24, hq25, hq56, e24, e25, e56, he20, hb0, e21, by omega, fun c hc => ⟨zo_pr_same (i6 c (by omega)).1 e19 e23 ev24 ev25 ev56, zo_pr_same (i6 c (by omega)).2.1 e19 e23 ev24 ev25 ev56, zo_pr_same (i6 c (by omega)).2.2 e19 e23 ev24 ev25 ev56, by rw [ev56]; exact i7 c (by omega) (he19 hb0)⟩⟩
      refine zp_load (pc := 64) hx hb (zd_X12_orders (64, .aload_n 0, 1, 0, []) (List.mem_of_getElem? (i := 32) rfl)) rfl (j := 0) rfl ?_
      refine zp_const (pc := 65) hx hb (zd_X12_orders (65, .bipush 17, 2, 0, []) (List.mem_of_getElem? (i := 33) rfl)) rfl rfl ?_
      refine zp_call (pc := 67) (how := 0) (idx := 174) (mi := 264) (S := []) hx hb hE hw heff hrm (zp_sw13 hW (zq_1101 hW) (by decide +kernel) (by decide +kernel)) rfl (j := 57) rfl rfl (by decide +kernel) (zd_X12_orders (67, .invokevirtual 174, 3, 0, []) (List.mem_of_getElem? (i := 34) rfl)) [(a : Int), 17] rfl ⟨zp_o2 hp, zp_o0 (by decide) (by decide) (by decide) (by decide), trivial⟩ (Nat.le_of_ble_eq_true rfl) (show Ge (zp_0 [(a : Int), 17]) 20 = 0 from he20) (fun al hal rnk Pk Gk hextk hfrk hokk hcsk hpsik => ?_)
      obtain rfl := List.mem_singleton.mp hal
      have hzk : Gk a 20 = 0 := hpsik
      have hork := zo_or_fr hor hextk hfrk (by decide +kernel) hzk
      have k6 : Gk a 6 = (b6 : Int) := (zp_nf hfrk hp rfl).trans e6
      have k7 : Gk a 7 = (b7 : Int) := (zp_nf hfrk hp rfl).trans e7
      have k9 : Gk a 9 = (b9 : Int) := (zp_nf hfrk hp rfl).trans e9
      have k10 : Gk a 10 = (b10 : Int) := (zp_nf hfrk hp rfl).trans e10
      have h13k : Gk a 13 = 0 := (zp_nf hfrk hp (by decide +kernel)).trans he13
      refine zp_kn (k := 8) (a := a) (G := Gk) hw (show zp_fd 92 8 = some (12, 0, 0, 0, 16) from rfl) rfl hork.1 (fun hk8 => ?_)
      obtain ⟨nu, hnu8⟩ := zp_nat (zp_int hk8).1
      have hx8 := zp_int hk8
      rw [hnu8] at hx8
      refine zp_load (pc := 70) hx hb (zd_X12_orders (70, .aload_n 0, 1, 0, []) (List.mem_of_getElem? (i := 35) rfl)) rfl (j := 0) rfl ?_
      refine zp_getf (n := (nu : Int)) (pc := 71) hx hb hE hw (zd_X12_orders (71, .getfield 167, 3, 0, []) (List.mem_of_getElem? (i := 36) rfl)) (j := 26) rfl rfl rfl hork.1 hnu8 ?_
      refine zp_store (L' := [(1, 0, (nu : Int)), (0, 2, (a : Int))]) (pc := 74) hx hb hnL (zd_X12_orders (74, .istore_n 1, 1, 0, []) (List.mem_of_getElem? (i := 37) rfl)) rfl rfl rfl ?_
      refine zp_const (pc := 75) hx hb (zd_X12_orders (75, .iconst 0, 1, 0, []) (List.mem_of_getElem? (i := 38) rfl)) rfl rfl ?_
      refine zp_store (L' := [(2, 0, 0), (1, 0, (nu : Int)), (0, 2, (a : Int))]) (pc := 76) hx hb hnL (zd_X12_orders (76, .istore_n 2, 1, 0, []) (List.mem_of_getElem? (i := 39) rfl)) rfl rfl rfl ?_
      exact loop0 545 0 nu ncl Pk Gk Gk (by omega) (by omega) (by omega) (hextk _ _ hq6) (hextk _ _ hq7) (hextk _ _ hq9) (hextk _ _ hq10) k6 k7 k9 k10 (fun _ => rfl) hork h13k
    · refine zp_load (pc := 57) hx hb (zd_X12_orders (57, .aload_n 0, 1, 0, []) (List.mem_of_getElem? (i := 28) rfl)) rfl (j := 0) rfl ?_
      refine zp_const (pc := 58) hx hb (zd_X12_orders (58, .bipush (-6), 2, 0, []) (List.mem_of_getElem? (i := 29) rfl)) rfl rfl ?_
      have z20 : Ge a 20 = 0 := he20
      have z13 : Ge a 13 = 0 := he13
      refine zp_call (pc := 60) (how := 0) (idx := 170) (mi := 183) (S := []) hx hb hE hw heff hrm (zX_te hW) rfl (j := 0) rfl rfl (by decide +kernel) (zd_X12_orders (60, .invokevirtual 170, 3, 0, []) (List.mem_of_getElem? (i := 30) rfl)) [(a : Int), (-6)] rfl ⟨zp_o2 hp, zp_o0 (by omega) (by omega) (by omega) (by omega), trivial⟩ (Nat.le_of_ble_eq_true rfl) trivial (fun al hal rnt Pt Gt hextt hfrt hokt hcst hpsit => ?_)
      obtain rfl := List.mem_singleton.mp hal
      have hrt := zp_int (hokt _ rfl).1
      obtain ⟨rfl, hrnt⟩ := hpsit
      have hrnt : rnt = (-6) := hrnt
      have zzt : Gt a 20 = 0 := (zp_nf hfrt hp rfl).trans z20
      have zyt : Gt a 13 = 0 := (zp_nf hfrt hp rfl).trans z13
      refine zp_iret (pc := 63) (n := rnt) hx hb hE hQ hU5 rfl (by decide) (zd_X12_orders (63, .ireturn, 1, 0, []) (List.mem_of_getElem? (i := 31) rfl)) (j := 0) rfl (zp_o0 (by omega) (by omega) (by omega) (by omega)) ?_
      rw [hps]
      exact (show Gt a 20 = 0 ∧ Gt a 13 = 0 from ⟨zzt, zyt⟩)
  have loop : ∀ (n : Nat) (G : Nat → Nat → Int), 400 - G a 14 < n → zo_in2 a G → G a 6 = (b6 : Int) → G a 7 = (b7 : Int) → G a 9 = (b9 : Int) → G a 10 = (b10 : Int) → G a 24 = (b24 : Int) → G a 25 = (b25 : Int) → G a 56 = (b56 : Int) → zp_J p l e R s m args below meth c Q w u [] 19 [(0, 2, (a : Int))] [] u.1 G := by
    intro n
    induction n with
    | zero =>
      intro G hn hin g6 g7 g9 g10 g24 g25 g56
      refine zp_kn (k := 13) (a := a) (G := G) hw (show zp_fd 92 13 = some (12, 0, 0, 0, 400) from rfl) rfl hp (fun hk13 => ?_)
      have hx13 := zp_int hk13
      have ht := hin.1.1
      obtain ⟨t1, t2, t3, -, -, -⟩ := ht
      exfalso
      omega
    | succ n ih =>
      intro G hn hin g6 g7 g9 g10 g24 g25 g56
      refine zp_kn (k := 13) (a := a) (G := G) hw (show zp_fd 92 13 = some (12, 0, 0, 0, 400) from rfl) rfl hp (fun hk13 => ?_)
      have hx13 := zp_int hk13
      have hin2 := hin
      obtain ⟨⟨i1, i2, i3, i4, i5, i6⟩, i7⟩ := hin2
      have ht := i1
      obtain ⟨t1, t2, t3, -, -, t6⟩ := ht
      refine zp_load (pc := 19) hx hb (zd_X12_orders (19, .aload_n 0, 1, 0, []) (List.mem_of_getElem? (i := 11) rfl)) rfl (j := 0) rfl ?_
      refine zp_getf (n := (G a 19)) (pc := 20) hx hb hE hw (zd_X12_orders (20, .getfield 240, 3, 0, []) (List.mem_of_getElem? (i := 12) rfl)) (j := 37) rfl rfl rfl hp rfl ?_
      refine zp_if (pc := 23) (tgt := 46) hx hb (zd_X12_orders (23, .ifCond .ne 23, 3, 0, []) (List.mem_of_getElem? (i := 13) rfl)) rfl (fun (hc239 : ¬ (G a 19) = 0) => ?_) (fun (hc239 : ¬ (¬ (G a 19) = 0)) => ?_)
      · exact h46 G hin g6 g7 g9 g10 g24 g25 g56
      · refine zp_load (pc := 26) hx hb (zd_X12_orders (26, .aload_n 0, 1, 0, []) (List.mem_of_getElem? (i := 14) rfl)) rfl (j := 0) rfl ?_
        refine zp_const (pc := 27) hx hb (zd_X12_orders (27, .bipush 59, 2, 0, []) (List.mem_of_getElem? (i := 15) rfl)) rfl rfl ?_
        refine zp_call (pc := 29) (how := 0) (idx := 313) (mi := 221) (S := []) hx hb hE hw heff hrm (zX_si hW) rfl (j := 23) rfl rfl (by decide +kernel) (zd_X12_orders (29, .invokevirtual 313, 3, 0, []) (List.mem_of_getElem? (i := 16) rfl)) [(a : Int), 59] rfl ⟨zp_o2 hp, zp_o0 (by decide) (by decide) (by decide) (by decide), trivial⟩ (Nat.le_of_ble_eq_true rfl) trivial (fun al hal rns Ps Gs hexts hfrs hoks hcss hpsis => ?_)
        obtain rfl := List.mem_singleton.mp hal
        have hrs := zp_int (hoks _ rfl).1
        obtain ⟨hPes, hGes, hts⟩ := hpsis
        rw [hPes, hGes]
        have hts : rns = 1 → G a 16 = 3 := hts
        refine zp_if (pc := 32) (tgt := 46) hx hb (zd_X12_orders (32, .ifCond .eq 14, 3, 0, []) (List.mem_of_getElem? (i := 17) rfl)) rfl (fun (hc240 : rns = 0) => ?_) (fun (hc240 : ¬ (rns = 0)) => ?_)
        · exact h46 G hin g6 g7 g9 g10 g24 g25 g56
        · refine zp_load (pc := 35) hx hb (zd_X12_orders (35, .aload_n 0, 1, 0, []) (List.mem_of_getElem? (i := 18) rfl)) rfl (j := 0) rfl ?_
          refine zp_call (pc := 36) (how := 0) (idx := 244) (mi := 212) (S := []) hx hb hE hw heff hrm (zX_nx hW) rfl (j := 14) rfl rfl (by decide +kernel) (zd_X12_orders (36, .invokevirtual 244, 3, 0, []) (List.mem_of_getElem? (i := 19) rfl)) [(a : Int)] rfl ⟨zp_o2 hp, trivial⟩ (Nat.le_of_ble_eq_true rfl) (show 0 ≤ G a 15 ∧ G a 15 ≤ G a 13 by omega) (fun al hal rnn Pn Gn hextn hfrn hokn hcsn hpsin => ?_)
          obtain rfl := List.mem_singleton.mp hal
          obtain ⟨rfl, hxn⟩ := hpsin
          have hxn : G a 15 ≤ Gn a 14 ∧ Gn a 14 ≤ Gn a 15 ∧ Gn a 15 ≤ G a 13 ∧ 0 ≤ Gn a 16 ∧ Gn a 16 ≤ 3 ∧ (Gn a 16 ≠ 0 → Gn a 14 < Gn a 15) := hxn
          have n13 : Gn a 13 = G a 13 := zp_nf hfrn hp rfl
          have n19 : Gn a 19 = G a 19 := zp_nf hfrn hp rfl
          have n21 : Gn a 21 = G a 21 := zp_nf hfrn hp rfl
          have n23 : Gn a 23 = G a 23 := zp_nf hfrn hp rfl
          have n24 : Gn a 24 = (b24 : Int) := (zp_nf hfrn hp rfl).trans g24
          have n25 : Gn a 25 = (b25 : Int) := (zp_nf hfrn hp rfl).trans g25
          have n56 : Gn a 56 = (b56 : Int) := (zp_nf hfrn hp rfl).trans g56
          have nv24 : ∀ j, zv Gn a 24 j = zv G a 24 j := fun j => by rw [zv_eq n24, zv_eq g24, zp_nc hfrn hq24 rfl]
          have nv25 : ∀ j, zv Gn a 25 j = zv G a 25 j := fun j => by rw [zv_eq n25, zv_eq g25, zp_nc hfrn hq25 rfl]
          have nv56 : ∀ j, zv Gn a 56 j = zv G a 56 j := fun j => by rw [zv_eq n56, zv_eq g56, zp_nc hfrn hq56 rfl]
          have hlt := t6 (by omega)
          have hinn : zo_in2 a Gn := ⟨⟨by unfold zs_tk; omega, by omega, by omega, by omega, by omega, fun c hc => ⟨zo_pr_same (i6 c (by omega)).1 n19 n23 nv24 nv25 nv56, zo_pr_same (i6 c (by omega)).2.1 n19 n23 nv24 nv25 nv56, zo_pr_same (i6 c (by omega)).2.2 n19 n23 nv24 nv25 nv56⟩⟩, fun c hc z => by rw [nv56]; exact i7 c (by omega) (by omega)⟩
          refine zp_load (pc := 39) hx hb (zd_X12_orders (39, .aload_n 0, 1, 0, []) (List.mem_of_getElem? (i := 20) rfl)) rfl (j := 0) rfl ?_
          refine zp_call (pc := 40) (how := 0) (idx := 549) (mi := 288) (S := []) hx hb hE hw heff hrm (zX_ro2 hW) rfl (j := 69) rfl rfl (by decide +kernel) (zd_X12_orders (40, .invokevirtual 549, 3, 0, []) (List.mem_of_getElem? (i := 21) rfl)) [(a : Int)] rfl ⟨zp_o2 hp, trivial⟩ (Nat.le_of_ble_eq_true rfl) hinn (fun al hal rnl Pl Gl hextl hfrl hokl hcsl hpsil => ?_)
          obtain rfl := List.mem_singleton.mp hal
          obtain ⟨rfl, hl1, hl2, hl3⟩ := hpsil
          have hl1 : zo_in2 a Gl := hl1
          have hl2 : Gn a 14 ≤ Gl a 14 := hl2
          refine zp_goto (tgt := 19) (pc := 43) hx hb (zd_X12_orders (43, .goto (-24), 3, 0, []) (List.mem_of_getElem? (i := 22) rfl)) rfl ?_
          exact ih Gl (by omega) hl1 (((zp_nf hfrl hp rfl).trans ((zp_nf hfrn hp rfl).trans g6))) (((zp_nf hfrl hp rfl).trans ((zp_nf hfrn hp rfl).trans g7))) (((zp_nf hfrl hp rfl).trans ((zp_nf hfrn hp rfl).trans g9))) (((zp_nf hfrl hp rfl).trans ((zp_nf hfrn hp rfl).trans g10))) (((zp_nf hfrl hp rfl).trans ((zp_nf hfrn hp rfl).trans g24))) (((zp_nf hfrl hp rfl).trans ((zp_nf hfrn hp rfl).trans g25))) (((zp_nf hfrl hp rfl).trans ((zp_nf hfrn hp rfl).trans g56)))
  refine zp_load (pc := 0) hx hb (zd_X12_orders (0, .aload_n 0, 1, 0, []) (List.mem_of_getElem? (i := 0) rfl)) rfl (j := 0) rfl ?_
  refine zp_const (pc := 1) hx hb (zd_X12_orders (1, .iconst 0, 1, 0, []) (List.mem_of_getElem? (i := 1) rfl)) rfl rfl ?_
  refine zp_putf (pc := 2) hx hb hE hw heff (zd_X12_orders (2, .putfield 161, 3, 0, []) (List.mem_of_getElem? (i := 2) rfl)) (j := 18) rfl rfl rfl hp (zp_o0 (by decide) (by decide) (by decide) (by decide)) ?_
  refine zp_load (pc := 5) hx hb (zd_X12_orders (5, .aload_n 0, 1, 0, []) (List.mem_of_getElem? (i := 3) rfl)) rfl (j := 0) rfl ?_
  refine zp_const (pc := 6) hx hb (zd_X12_orders (6, .iconst (-1), 1, 0, []) (List.mem_of_getElem? (i := 4) rfl)) rfl rfl ?_
  refine zp_putf (pc := 7) hx hb hE hw heff (zd_X12_orders (7, .putfield 152, 3, 0, []) (List.mem_of_getElem? (i := 5) rfl)) (j := 77) rfl rfl rfl hp (zp_o0 (by decide) (by decide) (by decide) (by decide)) ?_
  refine zp_load (pc := 10) hx hb (zd_X12_orders (10, .aload_n 0, 1, 0, []) (List.mem_of_getElem? (i := 6) rfl)) rfl (j := 0) rfl ?_
  refine zp_const (pc := 11) hx hb (zd_X12_orders (11, .iconst 1, 1, 0, []) (List.mem_of_getElem? (i := 7) rfl)) rfl rfl ?_
  refine zp_call (pc := 12) (how := 0) (idx := 379) (mi := 210) (S := []) hx hb hE hw heff hrm (zX_bx hW) rfl (j := 12) rfl rfl (by decide +kernel) (zd_X12_orders (12, .invokevirtual 379, 3, 0, []) (List.mem_of_getElem? (i := 8) rfl)) [(a : Int), 1] rfl ⟨zp_o2 hp, zp_o0 (by decide) (by decide) (by decide) (by decide), trivial⟩ (Nat.le_of_ble_eq_true rfl) trivial (fun al hal rnb Pb Gb hextb hfrb hokb hcsb hpsib => ?_)
  obtain rfl := List.mem_singleton.mp hal
  obtain ⟨rfl, y1, y2, y3, y4, y5⟩ := hpsib
  have y1 : zs_tk a Gb := y1
  have y2 : Gb a 19 = 0 := y2
  have y4 : Gb a 21 = 0 := y4
  have y5 : Gb a 23 = 0 := y5
  have hinb : zo_in2 a Gb := ⟨⟨y1, by omega, by omega, by omega, by have := y1.1; omega, fun c hc => by omega⟩, fun c hc => by omega⟩
  refine zp_load (pc := 15) hx hb (zd_X12_orders (15, .aload_n 0, 1, 0, []) (List.mem_of_getElem? (i := 9) rfl)) rfl (j := 0) rfl ?_
  refine zp_call (pc := 16) (how := 0) (idx := 549) (mi := 288) (S := []) hx hb hE hw heff hrm (zX_ro2 hW) rfl (j := 69) rfl rfl (by decide +kernel) (zd_X12_orders (16, .invokevirtual 549, 3, 0, []) (List.mem_of_getElem? (i := 10) rfl)) [(a : Int)] rfl ⟨zp_o2 hp, trivial⟩ (Nat.le_of_ble_eq_true rfl) hinb (fun al hal rnl Pl Gl hextl hfrl hokl hcsl hpsil => ?_)
  obtain rfl := List.mem_singleton.mp hal
  obtain ⟨rfl, hl1, hl2, hl3⟩ := hpsil
  have hl1 : zo_in2 a Gl := hl1
  have hl2 : Gb a 14 ≤ Gl a 14 := hl2
  have hq := hl1.1.1.1
  exact loop 401 Gl (by omega) hl1 (((zp_nf hfrl hp rfl).trans ((zp_nf hfrb hp rfl).trans ((zp_set_ne (Or.inr (by decide))).trans ((zp_set_ne (Or.inr (by decide))).trans (hb6)))))) (((zp_nf hfrl hp rfl).trans ((zp_nf hfrb hp rfl).trans ((zp_set_ne (Or.inr (by decide))).trans ((zp_set_ne (Or.inr (by decide))).trans (hb7)))))) (((zp_nf hfrl hp rfl).trans ((zp_nf hfrb hp rfl).trans ((zp_set_ne (Or.inr (by decide))).trans ((zp_set_ne (Or.inr (by decide))).trans (hb9)))))) (((zp_nf hfrl hp rfl).trans ((zp_nf hfrb hp rfl).trans ((zp_set_ne (Or.inr (by decide))).trans ((zp_set_ne (Or.inr (by decide))).trans (hb10)))))) (((zp_nf hfrl hp rfl).trans ((zp_nf hfrb hp rfl).trans ((zp_set_ne (Or.inr (by decide))).trans ((zp_set_ne (Or.inr (by decide))).trans (hb24)))))) (((zp_nf hfrl hp rfl).trans ((zp_nf hfrb hp rfl).trans ((zp_set_ne (Or.inr (by decide))).trans ((zp_set_ne (Or.inr (by decide))).trans (hb25)))))) (((zp_nf hfrl hp rfl).trans ((zp_nf hfrb hp rfl).trans ((zp_set_ne (Or.inr (by decide))).trans ((zp_set_ne (Or.inr (by decide))).trans (hb56))))))
