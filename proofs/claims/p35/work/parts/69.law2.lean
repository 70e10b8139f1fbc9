/-! part 69: law -/
theorem zl_f3 : zk_fj zl_T 3 = (0, 4, 0, 6) := by decide +kernel
/-- the law that was read, as it comes into the row -/
theorem zl_new {a n ncl : Nat} {G : Nat → Nat → Int} {f : Nat → Int} (hn : n < 6) (hok : ∀ c, c < ncl → zl_ok a G c) (hnc : G a 23 ≤ 400) (h1 : f (180 + 900 * n + 1) = ncl) (hcl : ∀ j, j < 8 * ncl → f (180 + 900 * n + 2 + j) = zv G a 22 j) (hop : ∀ q : Nat, (q : Int) < G a 23 → f (180 + 900 * n + 98 + 2 * q) = zv G a 24 q ∧ f (180 + 900 * n + 98 + 2 * q + 1) = zv G a 25 q) : zk_law f (180 + 900 * n) := by
  intro c hc hlt
  rw [h1] at hlt
  have hlt : c < ncl := by omega
  obtain ⟨a1, a2, a3⟩ := hok c hlt
  have e : ∀ j, j < 8 → f (180 + 900 * n + 2 + 8 * c + j) = zv G a 22 (8 * c + j) := fun j hj => by
    rw [← hcl (8 * c + j) (by omega)]
    congr 1
    omega
  have e0 := e 0 (by decide)
  rw [Nat.add_zero, Nat.add_zero] at e0
  have cr : ∀ {x y : Int}, y ≤ G a 23 → zk_cr (zv G a 24) (zv G a 25) x.toNat y.toNat → zk_cr (fun k => f (180 + 900 * n + 98 + 2 * k)) (fun k => f (180 + 900 * n + 98 + 2 * k + 1)) x.toNat y.toNat := fun {x y} hy z => zh_crc z (fun q q1 q2 => by
    have h3 := hop q (by omega)
    exact ⟨h3.1.symm, h3.2.symm⟩)
  refine ⟨fun g1 => ?_, fun g1 => ?_⟩
  · rw [e 5 (by decide), e 6 (by decide)] at g1 ⊢
    exact cr (a1 6 (by decide) (by decide)).2 (a2 g1)
  · rw [e0] at g1
    rw [e 3 (by decide), e 4 (by decide)]
    exact cr (a1 4 (by decide) (by decide)).2 (a3 g1)
def zK_lw : zk_K := (zt_mn 209, prog_14_method_62_code, 3, (Option.some Jvm.ClassFile.FieldType.int), 1, 12, [(2, 92, 0, 0)], [(some (0, 0, (-6), 5), [])], [(92, 0, 0), (92, 13, 0), (92, 20, 0), (92, 14, 0), (92, 15, 0), (92, 16, 0), (92, 17, 0), (92, 18, 0), (92, 19, 0), (92, 30, 0), (92, 29, 0), (92, 23, 0), (68, 1001, 0), (69, 1001, 0), (70, 1001, 0), (71, 1001, 0), (92, 26, 0), (92, 21, 0), (67, 1001, 0), (92, 1, 0), (58, 1001, 0), (59, 3771, 0), (59, 1003, 0)], (8, 400, 0, 0))
def zφ_lw : (Nat → Option Nat) → (Nat → Nat → Int) → List Int → Prop := fun _ G ps => G (zp_0 ps) 20 = 0
def zψ_lw : (Nat → Option Nat) → (Nat → Nat → Int) → List Int → (Nat → Option Nat) → (Nat → Nat → Int) → Int → Prop := fun P G ps P' G' rn => P' = P ∧ G' (zp_0 ps) 20 = 0
theorem zX_lw {l : Launch} {w : zk_W} (hW : zh_W w) : zk_metX l w zt_dv zt_TB zK_lw (zp_A zφ_lw) (zp_B zψ_lw) ∧ zk_cok w zt_TB zK_lw := by
  refine zp_meth hW (pl := 1672) rfl (by decide +kernel) (fun p e R s m args below meth c Q u hx hb hE hQ hU5 heff hnL hok hφ => ?_)
  have hw := hW.1
  obtain ⟨p0, hps, k0⟩ := zp_ps1 hok
  obtain ⟨a, rfl, hp⟩ := zp_this k0
  have hrm : zk_Kr (zk_ev (zp_E zK_lw)) = zk_Kr zK_lw := rfl
  rw [hps] at hφ ⊢
  have hφ : zp_n u.2.1 a 20 = 0 := hφ
  show zp_J p l e R s m args below meth c Q w u [] 0 [(0, 2, (a : Int))] [] u.1 (zp_n u.2.1)
  refine zp_kn (k := 3) (a := a) hw (show zp_fd 92 3 = some (12, 2, 59, 0, 0) from rfl) rfl hp (fun hk3 => ?_)
  obtain ⟨b3, hb3, hq3⟩ := zp_this hk3
  refine zp_kn (k := 22) (a := a) hw (show zp_fd 92 22 = some (12, 2, 67, 0, 0) from rfl) rfl hp (fun hk22 => ?_)
  obtain ⟨b22, hb22, hq22⟩ := zp_this hk22
  refine zp_kn (k := 24) (a := a) hw (show zp_fd 92 24 = some (12, 2, 68, 0, 0) from rfl) rfl hp (fun hk24 => ?_)
  obtain ⟨b24, hb24, hq24⟩ := zp_this hk24
  refine zp_kn (k := 25) (a := a) hw (show zp_fd 92 25 = some (12, 2, 69, 0, 0) from rfl) rfl hp (fun hk25 => ?_)
  obtain ⟨b25, hb25, hq25⟩ := zp_this hk25
  refine zp_kx hw hq3 zl_T59 rfl (fun hkx => ?_)
  obtain ⟨f0, hf0, hxi⟩ := hkx
  have hlaws : zk_laws f0 0 := hxi.1 rfl
  have hf0 : ∀ j, j < 5580 → f0 j = zp_n u.2.1 b3 (2000 + j) := hf0
  refine zp_kaT hw hq3 zl_T59 rfl zl_kd (fun hka => ?_)
  have hka : ∀ j, j < 5580 → zk_ok u.1 (zk_fj zl_T j) (zp_n u.2.1 b3 (2000 + j)) := hka
  have hk3 : 0 ≤ zp_n u.2.1 b3 (2000 + 3) ∧ zp_n u.2.1 b3 (2000 + 3) ≤ 6 := by
    have h := hka 3 (by decide)
    rw [zl_f3] at h
    exact zp_int h
  obtain ⟨nl, hnl⟩ := zp_nat hk3.1
  rw [hnl] at hk3
  have loop2 : ∀ (n k : Nat) (Ge G : Nat → Nat → Int) (ncl nc : Nat), nc - k < n → k ≤ nc → nl < 6 → Ge a 3 = (b3 : Int) → Ge a 22 = (b22 : Int) → Ge a 24 = (b24 : Int) → Ge a 25 = (b25 : Int) → Ge a 20 = 0 → Ge a 21 = (ncl : Int) → ncl ≤ 12 → Ge a 23 = (nc : Int) → nc ≤ 400 → (∀ c, c < ncl → zl_ok a Ge c) → (∀ k, G a k = Ge a k) → (∀ k, G b22 k = Ge b22 k) → (∀ k, G b24 k = Ge b24 k) → (∀ k, G b25 k = Ge b25 k) → (∀ j, j < 900 * nl + 181 ∨ 900 * nl + 1080 ≤ j → G b3 (2000 + j) = zp_n u.2.1 b3 (2000 + j)) → G b3 (2000 + (900 * nl + 181)) = (ncl : Int) → (∀ j, j < 8 * ncl → G b3 (2000 + (900 * nl + 182 + j)) = Ge b22 (2000 + j)) → (∀ q, q < k → G b3 (2000 + (900 * nl + 278 + 2 * q)) = Ge b24 (2000 + q) ∧ G b3 (2000 + (900 * nl + 278 + 2 * q + 1)) = Ge b25 (2000 + q)) → zp_J p l e R s m args below meth c Q w u [b3] 146 [(2, 0, (k : Int)), (1, 0, (900 * (nl : Int) + 180)), (0, 2, (a : Int))] [] u.1 G := by
    intro n
    induction n with
    | zero => intro k Ge G ncl nc h; exact absurd h (Nat.not_lt_zero _)
    | succ n ih =>
      intro k Ge G ncl nc hn hk hnl6 e3 e22 e24 e25 e20 e21 hncl e23 hnc hok za z22 z24 z25 r0 r1 r2 r3
      refine zp_load (pc := 146) hx hb (zd_X12_law (146, .iload_n 2, 1, 0, []) (List.mem_of_getElem? (i := 83) rfl)) rfl (j := 0) rfl ?_
      refine zp_load (pc := 147) hx hb (zd_X12_law (147, .aload_n 0, 1, 0, []) (List.mem_of_getElem? (i := 84) rfl)) rfl (j := 2) rfl ?_
      refine zp_getf (n := (nc : Int)) (pc := 148) hx hb hE hw (zd_X12_law (148, .getfield 279, 3, 0, []) (List.mem_of_getElem? (i := 85) rfl)) (j := 41) rfl rfl rfl hp ((za 23).trans e23) ?_
      refine zp_icmp (pc := 151) (tgt := 200) hx hb (zd_X12_law (151, .if_icmp .ge 49, 3, 0, []) (List.mem_of_getElem? (i := 86) rfl)) rfl (fun (hc185 : (nc : Int) ≤ (k : Int)) => ?_) (fun (hc185 : ¬ ((nc : Int) ≤ (k : Int))) => ?_)
      · refine zp_load (pc := 200) hx hb (zd_X12_law (200, .aload_n 0, 1, 0, []) (List.mem_of_getElem? (i := 119) rfl)) rfl (j := 2) rfl ?_
        refine zp_getf (n := (b3 : Int)) (pc := 201) hx hb hE hw (zd_X12_law (201, .getfield 13, 3, 0, []) (List.mem_of_getElem? (i := 120) rfl)) (j := 21) rfl rfl rfl hp ((za 3).trans e3) ?_
        refine zp_const (pc := 204) hx hb (zd_X12_law (204, .iconst 3, 1, 0, []) (List.mem_of_getElem? (i := 121) rfl)) rfl rfl ?_
        refine zp_dup2 (pc := 205) hx hb (zd_X12_law (205, .dup2, 1, 0, []) (List.mem_of_getElem? (i := 122) rfl)) (show (0 : Nat) ≠ 1 by decide) (show (2 : Nat) ≠ 1 by decide) ?_
        refine zp_ialdT (j := 3) (v := (nl : Int)) (pc := 206) hx hb hw (zd_X12_law (206, .iaload, 1, 0, []) (List.mem_of_getElem? (i := 123) rfl)) zl_T59 rfl (zl_kd 3) hq3 rfl (show 3 < 5580 by decide) ((r0 3 (by omega)).trans hnl) (fun hk186 => ?_)
        rw [zl_f3] at hk186
        have hk186b := zp_int hk186
        refine zp_const (pc := 207) hx hb (zd_X12_law (207, .iconst 1, 1, 0, []) (List.mem_of_getElem? (i := 124) rfl)) rfl rfl ?_
        refine zp_add (n := ((nl : Int) + 1)) (pc := 208) hx hb (zd_X12_law (208, .iadd, 1, 0, []) (List.mem_of_getElem? (i := 125) rfl)) (by omega) (zp_r0 (by omega) (by omega)) ?_
        have hst : zk_ok u.1 (zk_fj zl_T 3) ((nl : Int) + 1) := by
          rw [zl_f3]
          exact zp_o0 (by omega) (by omega) (by omega) (by omega)
        refine zp_iastU (j := 3) (pc := 209) hx hb hw heff (zd_X12_law (209, .iastore, 1, 0, []) (List.mem_of_getElem? (i := 126) rfl)) zl_T59 rfl (zl_kd _) hq3 (by omega) (show 3 < 5580 by omega) (by omega) hst (Or.inl (List.mem_singleton.mpr rfl)) ⟨3771, rfl, by unfold zk_pm zk_er; decide⟩ ?_
        have hkn : k = nc := by omega
        refine zp_strong hw hq3 zl_T59 rfl (fun f hf => ⟨fun _ => ?_, fun z => absurd z (by decide)⟩) ?_
        · have hf : ∀ j, j < 5580 → f j = (zp_set G b3 (2000 + 3) ((nl : Int) + 1)) b3 (2000 + j) := hf
          intro k2 hk2
          show zk_law f (0 + 180 + 900 * k2)
          rw [Nat.zero_add]
          by_cases hkl : k2 = nl
          · subst hkl
            refine zl_new (ncl := ncl) (G := Ge) hk2 hok (by omega) ?_ (fun j hj => ?_) (fun q hq => ⟨?_, ?_⟩)
            · rw [hf _ (by omega), zp_set_ne (Or.inr (by omega)), ← r1]; congr 1; omega
            · rw [hf _ (by omega), zp_set_ne (Or.inr (by omega)), zv_eq e22, ← r2 j hj]; congr 1; omega
            · rw [hf _ (by omega), zp_set_ne (Or.inr (by omega)), zv_eq e24, ← (r3 q (by omega)).1]; congr 1; omega
            · rw [hf _ (by omega), zp_set_ne (Or.inr (by omega)), zv_eq e25, ← (r3 q (by omega)).2]; congr 1; omega
          · have hl0 := hlaws k2 hk2
            rw [Nat.zero_add] at hl0
            refine zl_congr hl0 (fun j hj => ?_) (fun c hc j j1 j2 => ?_)
            · rw [hf _ (by omega), zp_set_ne (Or.inr (by omega)), r0 _ (by omega), hf0 _ (by omega)]
            · obtain ⟨x, lo, hi, y1, y2, -⟩ := zl_rg3 hk2 hc (j := j) (by omega)
              have hb := hka (180 + 900 * k2 + 2 + (8 * c + j)) (by omega)
              rw [y1] at hb
              have hb2 := (zp_int hb).2
              have hy := (y2 j1 j2).2
              rw [hf0 _ (by omega), show 180 + 900 * k2 + 2 + 8 * c + j = 180 + 900 * k2 + 2 + (8 * c + j) by omega]
              omega
        refine zp_load (pc := 210) hx hb (zd_X12_law (210, .aload_n 0, 1, 0, []) (List.mem_of_getElem? (i := 127) rfl)) rfl (j := 2) rfl ?_
        refine zp_load (pc := 211) hx hb (zd_X12_law (211, .aload_n 0, 1, 0, []) (List.mem_of_getElem? (i := 128) rfl)) rfl (j := 2) rfl ?_
        refine zp_getf (n := (b3 : Int)) (pc := 212) hx hb hE hw (zd_X12_law (212, .getfield 13, 3, 0, []) (List.mem_of_getElem? (i := 129) rfl)) (j := 21) rfl rfl rfl hp ((zp_set_ne (Or.inl (zp_pne hp hq3 (by decide)))).trans (((za 3).trans e3))) ?_
        refine zp_const (pc := 215) hx hb (zd_X12_law (215, .iconst 3, 1, 0, []) (List.mem_of_getElem? (i := 130) rfl)) rfl rfl ?_
        refine zp_ialdT (j := 3) (v := ((nl : Int) + 1)) (pc := 216) hx hb hw (zd_X12_law (216, .iaload, 1, 0, []) (List.mem_of_getElem? (i := 131) rfl)) zl_T59 rfl (zl_kd 3) hq3 rfl (show 3 < 5580 by decide) zp_set_self (fun hk187 => ?_)
        rw [zl_f3] at hk187
        have hk187b := zp_int hk187
        refine zp_const (pc := 217) hx hb (zd_X12_law (217, .iconst 1, 1, 0, []) (List.mem_of_getElem? (i := 132) rfl)) rfl rfl ?_
        refine zp_sub (n := (nl : Int)) (pc := 218) hx hb (zd_X12_law (218, .isub, 1, 0, []) (List.mem_of_getElem? (i := 133) rfl)) (by omega) (zp_r0 (by omega) (by omega)) ?_
        refine zp_call (pc := 219) (how := 0) (idx := 170) (mi := 183) (S := []) hx hb hE hw heff hrm (zX_te hW) rfl (j := 0) rfl rfl (by decide +kernel) (zd_X12_law (219, .invokevirtual 170, 3, 0, []) (List.mem_of_getElem? (i := 134) rfl)) [(a : Int), (nl : Int)] rfl ⟨zp_o2 hp, zp_o0 (by omega) (by omega) (by omega) (by omega), trivial⟩ (Nat.le_of_ble_eq_true rfl) trivial (fun al hal rnt Pt Gt hextt hfrt hokt hcst hpsit => ?_)
        obtain rfl := List.mem_singleton.mp hal
        have hrt := zp_int (hokt _ rfl).1
        obtain ⟨rfl, hrnt⟩ := hpsit
        have hrnt : rnt = (nl : Int) := hrnt
        refine zp_iret (pc := 222) (n := rnt) hx hb hE hQ hU5 rfl (by decide) (zd_X12_law (222, .ireturn, 1, 0, []) (List.mem_of_getElem? (i := 135) rfl)) (j := 0) rfl (zp_o0 (by omega) (by omega) (by omega) (by omega)) ?_
        rw [hps]
        refine ⟨rfl, ?_⟩
        show Gt a 20 = 0
        exact ((zp_nf hfrt hp rfl).trans ((zp_set_ne (Or.inl (zp_pne hp hq3 (by decide)))).trans (((za 20).trans e20))))
      · refine zp_load (pc := 154) hx hb (zd_X12_law (154, .aload_n 0, 1, 0, []) (List.mem_of_getElem? (i := 87) rfl)) rfl (j := 2) rfl ?_
        refine zp_getf (n := (b3 : Int)) (pc := 155) hx hb hE hw (zd_X12_law (155, .getfield 13, 3, 0, []) (List.mem_of_getElem? (i := 88) rfl)) (j := 21) rfl rfl rfl hp ((za 3).trans e3) ?_
        refine zp_load (pc := 158) hx hb (zd_X12_law (158, .iload_n 1, 1, 0, []) (List.mem_of_getElem? (i := 89) rfl)) rfl (j := 1) rfl ?_
        refine zp_const (pc := 159) hx hb (zd_X12_law (159, .bipush 98, 2, 0, []) (List.mem_of_getElem? (i := 90) rfl)) rfl rfl ?_
        refine zp_add (n := (900 * (nl : Int) + 278)) (pc := 161) hx hb (zd_X12_law (161, .iadd, 1, 0, []) (List.mem_of_getElem? (i := 91) rfl)) (by omega) (zp_r0 (by omega) (by omega)) ?_
        refine zp_const (pc := 162) hx hb (zd_X12_law (162, .iconst 2, 1, 0, []) (List.mem_of_getElem? (i := 92) rfl)) rfl rfl ?_
        refine zp_load (pc := 163) hx hb (zd_X12_law (163, .iload_n 2, 1, 0, []) (List.mem_of_getElem? (i := 93) rfl)) rfl (j := 0) rfl ?_
        refine zp_mul (n := (2 * (k : Int))) (pc := 164) hx hb (zd_X12_law (164, .imul, 1, 0, []) (List.mem_of_getElem? (i := 94) rfl)) (by omega) (zp_r0 (by omega) (by omega)) ?_
        refine zp_add (n := (900 * (nl : Int) + 2 * (k : Int) + 278)) (pc := 165) hx hb (zd_X12_law (165, .iadd, 1, 0, []) (List.mem_of_getElem? (i := 95) rfl)) (by omega) (zp_r0 (by omega) (by omega)) ?_
        refine zp_load (pc := 166) hx hb (zd_X12_law (166, .aload_n 0, 1, 0, []) (List.mem_of_getElem? (i := 96) rfl)) rfl (j := 2) rfl ?_
        refine zp_getf (n := (b24 : Int)) (pc := 167) hx hb hE hw (zd_X12_law (167, .getfield 45, 3, 0, []) (List.mem_of_getElem? (i := 97) rfl)) (j := 42) rfl rfl rfl hp ((za 24).trans e24) ?_
        refine zp_load (pc := 170) hx hb (zd_X12_law (170, .iload_n 2, 1, 0, []) (List.mem_of_getElem? (i := 98) rfl)) rfl (j := 0) rfl ?_
        refine zp_iald (j := k) (v := (G b24 (2000 + k))) (pc := 171) hx hb hw (zd_X12_law (171, .iaload, 1, 0, []) (List.mem_of_getElem? (i := 99) rfl)) (show zp_ia 1 68 = some (400, 0, 0, (-2147483648), 2147483647) from rfl) hq24 (by omega) (by omega) rfl (fun hk188 => ?_)
        have hk188b := zp_int hk188
        have hst : zk_ok u.1 (zk_fj zl_T (900 * nl + 2 * k + 278)) (G b24 (2000 + k)) := by
          obtain ⟨x, hx0⟩ := zl_rg2 hnl6 (j := 98 + 2 * k) (by omega) (by omega)
          rw [show (900 * nl + 2 * k + 278) = 180 + 900 * nl + (98 + 2 * k) by omega, hx0]
          exact zp_o0 (by omega) (by omega) (by omega) (by omega)
        refine zp_iastU (j := (900 * nl + 2 * k + 278)) (pc := 172) hx hb hw heff (zd_X12_law (172, .iastore, 1, 0, []) (List.mem_of_getElem? (i := 100) rfl)) zl_T59 rfl (zl_kd _) hq3 (by omega) (show (900 * nl + 2 * k + 278) < 5580 by omega) (by omega) hst (Or.inl (List.mem_singleton.mpr rfl)) ⟨1003, rfl, zp_1003 (by omega) (by omega)⟩ ?_
        refine zp_load (pc := 173) hx hb (zd_X12_law (173, .aload_n 0, 1, 0, []) (List.mem_of_getElem? (i := 101) rfl)) rfl (j := 2) rfl ?_
        refine zp_getf (n := (b3 : Int)) (pc := 174) hx hb hE hw (zd_X12_law (174, .getfield 13, 3, 0, []) (List.mem_of_getElem? (i := 102) rfl)) (j := 21) rfl rfl rfl hp ((zp_set_ne (Or.inl (zp_pne hp hq3 (by decide)))).trans (((za 3).trans e3))) ?_
        refine zp_load (pc := 177) hx hb (zd_X12_law (177, .iload_n 1, 1, 0, []) (List.mem_of_getElem? (i := 103) rfl)) rfl (j := 1) rfl ?_
        refine zp_const (pc := 178) hx hb (zd_X12_law (178, .bipush 98, 2, 0, []) (List.mem_of_getElem? (i := 104) rfl)) rfl rfl ?_
        refine zp_add (n := (900 * (nl : Int) + 278)) (pc := 180) hx hb (zd_X12_law (180, .iadd, 1, 0, []) (List.mem_of_getElem? (i := 105) rfl)) (by omega) (zp_r0 (by omega) (by omega)) ?_
        refine zp_const (pc := 181) hx hb (zd_X12_law (181, .iconst 2, 1, 0, []) (List.mem_of_getElem? (i := 106) rfl)) rfl rfl ?_
        refine zp_load (pc := 182) hx hb (zd_X12_law (182, .iload_n 2, 1, 0, []) (List.mem_of_getElem? (i := 107) rfl)) rfl (j := 0) rfl ?_
        refine zp_mul (n := (2 * (k : Int))) (pc := 183) hx hb (zd_X12_law (183, .imul, 1, 0, []) (List.mem_of_getElem? (i := 108) rfl)) (by omega) (zp_r0 (by omega) (by omega)) ?_
        refine zp_add (n := (900 * (nl : Int) + 2 * (k : Int) + 278)) (pc := 184) hx hb (zd_X12_law (184, .iadd, 1, 0, []) (List.mem_of_getElem? (i := 109) rfl)) (by omega) (zp_r0 (by omega) (by omega)) ?_
        refine zp_const (pc := 185) hx hb (zd_X12_law (185, .iconst 1, 1, 0, []) (List.mem_of_getElem? (i := 110) rfl)) rfl rfl ?_
        refine zp_add (n := (900 * (nl : Int) + 2 * (k : Int) + 279)) (pc := 186) hx hb (zd_X12_law (186, .iadd, 1, 0, []) (List.mem_of_getElem? (i := 111) rfl)) (by omega) (zp_r0 (by omega) (by omega)) ?_
        refine zp_load (pc := 187) hx hb (zd_X12_law (187, .aload_n 0, 1, 0, []) (List.mem_of_getElem? (i := 112) rfl)) rfl (j := 2) rfl ?_
        refine zp_getf (n := (b25 : Int)) (pc := 188) hx hb hE hw (zd_X12_law (188, .getfield 48, 3, 0, []) (List.mem_of_getElem? (i := 113) rfl)) (j := 43) rfl rfl rfl hp ((zp_set_ne (Or.inl (zp_pne hp hq3 (by decide)))).trans (((za 25).trans e25))) ?_
        refine zp_load (pc := 191) hx hb (zd_X12_law (191, .iload_n 2, 1, 0, []) (List.mem_of_getElem? (i := 114) rfl)) rfl (j := 0) rfl ?_
        refine zp_iald (j := k) (v := (G b25 (2000 + k))) (pc := 192) hx hb hw (zd_X12_law (192, .iaload, 1, 0, []) (List.mem_of_getElem? (i := 115) rfl)) (show zp_ia 1 69 = some (400, 0, 0, (-2147483648), 2147483647) from rfl) hq25 (by omega) (by omega) ((zp_set_ne (Or.inl (zp_pne hq25 hq3 (by decide))))) (fun hk189 => ?_)
        have hk189b := zp_int hk189
        have hst : zk_ok u.1 (zk_fj zl_T (900 * nl + 2 * k + 279)) (G b25 (2000 + k)) := by
          obtain ⟨x, hx0⟩ := zl_rg2 hnl6 (j := 98 + 2 * k + 1) (by omega) (by omega)
          rw [show (900 * nl + 2 * k + 279) = 180 + 900 * nl + (98 + 2 * k + 1) by omega, hx0]
          exact zp_o0 (by omega) (by omega) (by omega) (by omega)
        refine zp_iastU (j := (900 * nl + 2 * k + 279)) (pc := 193) hx hb hw heff (zd_X12_law (193, .iastore, 1, 0, []) (List.mem_of_getElem? (i := 116) rfl)) zl_T59 rfl (zl_kd _) hq3 (by omega) (show (900 * nl + 2 * k + 279) < 5580 by omega) (by omega) hst (Or.inl (List.mem_singleton.mpr rfl)) ⟨1003, rfl, zp_1003 (by omega) (by omega)⟩ ?_
        refine zp_iinc (L' := [(2, 0, ((k : Int) + 1)), (1, 0, (900 * (nl : Int) + 180)), (0, 2, (a : Int))]) (n := ((k : Int) + 1)) (pc := 194) hx hb hnL (zd_X12_law (194, .iinc 2 1, 3, 0, []) (List.mem_of_getElem? (i := 117) rfl)) (j := 0) rfl (by omega) (zp_r0 (by omega) (by omega)) rfl rfl ?_
        refine zp_goto (tgt := 146) (pc := 197) hx hb (zd_X12_law (197, .goto (-51), 3, 0, []) (List.mem_of_getElem? (i := 118) rfl)) rfl ?_
        refine ih (k + 1) Ge _ ncl nc (by omega) (by omega) hnl6 e3 e22 e24 e25 e20 e21 hncl e23 hnc hok (fun k => ((zp_set_ne (Or.inl (zp_pne hp hq3 (by decide)))).trans (zp_set_ne (Or.inl (zp_pne hp hq3 (by decide))))).trans (za k)) (fun k => ((zp_set_ne (Or.inl (zp_pne hq22 hq3 (by decide)))).trans (zp_set_ne (Or.inl (zp_pne hq22 hq3 (by decide))))).trans (z22 k)) (fun k => ((zp_set_ne (Or.inl (zp_pne hq24 hq3 (by decide)))).trans (zp_set_ne (Or.inl (zp_pne hq24 hq3 (by decide))))).trans (z24 k)) (fun k => ((zp_set_ne (Or.inl (zp_pne hq25 hq3 (by decide)))).trans (zp_set_ne (Or.inl (zp_pne hq25 hq3 (by decide))))).trans (z25 k)) (fun j hj => ((zp_set_ne (Or.inr (by omega))).trans (zp_set_ne (Or.inr (by omega)))).trans (r0 j hj)) (((zp_set_ne (Or.inr (by omega))).trans (zp_set_ne (Or.inr (by omega)))).trans r1) (fun j hj => ((zp_set_ne (Or.inr (by omega))).trans (zp_set_ne (Or.inr (by omega)))).trans (r2 j hj)) (fun q hq => ?_)
        by_cases hqk : q = k
        · subst hqk
          exact ⟨((zp_set_ne (Or.inr (by omega))).trans (zp_set_eq rfl (by omega))).trans (z24 _), (zp_set_eq rfl (by omega)).trans ((rfl).trans (z25 _))⟩
        · exact ⟨((zp_set_ne (Or.inr (by omega))).trans (zp_set_ne (Or.inr (by omega)))).trans (r3 q (by omega)).1, ((zp_set_ne (Or.inr (by omega))).trans (zp_set_ne (Or.inr (by omega)))).trans (r3 q (by omega)).2⟩
  have loop1 : ∀ (n i : Nat) (Ge G : Nat → Nat → Int) (ncl nc : Nat), 8 * ncl - i < n → i ≤ 8 * ncl → nl < 6 → Ge a 3 = (b3 : Int) → Ge a 22 = (b22 : Int) → Ge a 24 = (b24 : Int) → Ge a 25 = (b25 : Int) → Ge a 20 = 0 → Ge a 21 = (ncl : Int) → ncl ≤ 12 → Ge a 23 = (nc : Int) → nc ≤ 400 → (∀ c, c < ncl → zl_ok a Ge c) → (∀ k, G a k = Ge a k) → (∀ k, G b22 k = Ge b22 k) → (∀ k, G b24 k = Ge b24 k) → (∀ k, G b25 k = Ge b25 k) → (∀ j, j < 900 * nl + 181 ∨ 900 * nl + 182 + i ≤ j → G b3 (2000 + j) = zp_n u.2.1 b3 (2000 + j)) → G b3 (2000 + (900 * nl + 181)) = (ncl : Int) → (∀ j, j < i → G b3 (2000 + (900 * nl + 182 + j)) = Ge b22 (2000 + j)) → zp_J p l e R s m args below meth c Q w u [b3] 111 [(2, 0, (i : Int)), (1, 0, (900 * (nl : Int) + 180)), (0, 2, (a : Int))] [] u.1 G := by
    intro n
    induction n with
    | zero => intro i Ge G ncl nc h; exact absurd h (Nat.not_lt_zero _)
    | succ n ih =>
      intro i Ge G ncl nc hn hk hnl6 e3 e22 e24 e25 e20 e21 hncl e23 hnc hok za z22 z24 z25 r0 r1 r2
      refine zp_load (pc := 111) hx hb (zd_X12_law (111, .iload_n 2, 1, 0, []) (List.mem_of_getElem? (i := 61) rfl)) rfl (j := 0) rfl ?_
      refine zp_const (pc := 112) hx hb (zd_X12_law (112, .bipush 8, 2, 0, []) (List.mem_of_getElem? (i := 62) rfl)) rfl rfl ?_
      refine zp_load (pc := 114) hx hb (zd_X12_law (114, .aload_n 0, 1, 0, []) (List.mem_of_getElem? (i := 63) rfl)) rfl (j := 2) rfl ?_
      refine zp_getf (n := (ncl : Int)) (pc := 115) hx hb hE hw (zd_X12_law (115, .getfield 371, 3, 0, []) (List.mem_of_getElem? (i := 64) rfl)) (j := 39) rfl rfl rfl hp ((za 21).trans e21) ?_
      refine zp_mul (n := (8 * (ncl : Int))) (pc := 118) hx hb (zd_X12_law (118, .imul, 1, 0, []) (List.mem_of_getElem? (i := 65) rfl)) (by omega) (zp_r0 (by omega) (by omega)) ?_
      refine zp_icmp (pc := 119) (tgt := 144) hx hb (zd_X12_law (119, .if_icmp .ge 25, 3, 0, []) (List.mem_of_getElem? (i := 66) rfl)) rfl (fun (hc190 : (8 * (ncl : Int)) ≤ (i : Int)) => ?_) (fun (hc190 : ¬ ((8 * (ncl : Int)) ≤ (i : Int))) => ?_)
      · refine zp_const (pc := 144) hx hb (zd_X12_law (144, .iconst 0, 1, 0, []) (List.mem_of_getElem? (i := 81) rfl)) rfl rfl ?_
        refine zp_store (L' := [(2, 0, 0), (1, 0, (900 * (nl : Int) + 180)), (0, 2, (a : Int))]) (pc := 145) hx hb hnL (zd_X12_law (145, .istore_n 2, 1, 0, []) (List.mem_of_getElem? (i := 82) rfl)) rfl rfl rfl ?_
        have hin : i = 8 * ncl := by omega
        exact loop2 (nc + 1) 0 Ge G ncl nc (by omega) (by omega) hnl6 e3 e22 e24 e25 e20 e21 hncl e23 hnc hok za z22 z24 z25 (fun j hj => r0 j (by omega)) r1 (fun j hj => r2 j (by omega)) (fun q hq => absurd hq (Nat.not_lt_zero q))
      · refine zp_load (pc := 122) hx hb (zd_X12_law (122, .aload_n 0, 1, 0, []) (List.mem_of_getElem? (i := 67) rfl)) rfl (j := 2) rfl ?_
        refine zp_getf (n := (b3 : Int)) (pc := 123) hx hb hE hw (zd_X12_law (123, .getfield 13, 3, 0, []) (List.mem_of_getElem? (i := 68) rfl)) (j := 21) rfl rfl rfl hp ((za 3).trans e3) ?_
        refine zp_load (pc := 126) hx hb (zd_X12_law (126, .iload_n 1, 1, 0, []) (List.mem_of_getElem? (i := 69) rfl)) rfl (j := 1) rfl ?_
        refine zp_const (pc := 127) hx hb (zd_X12_law (127, .iconst 2, 1, 0, []) (List.mem_of_getElem? (i := 70) rfl)) rfl rfl ?_
        refine zp_add (n := (900 * (nl : Int) + 182)) (pc := 128) hx hb (zd_X12_law (128, .iadd, 1, 0, []) (List.mem_of_getElem? (i := 71) rfl)) (by omega) (zp_r0 (by omega) (by omega)) ?_
        refine zp_load (pc := 129) hx hb (zd_X12_law (129, .iload_n 2, 1, 0, []) (List.mem_of_getElem? (i := 72) rfl)) rfl (j := 0) rfl ?_
        refine zp_add (n := (900 * (nl : Int) + (i : Int) + 182)) (pc := 130) hx hb (zd_X12_law (130, .iadd, 1, 0, []) (List.mem_of_getElem? (i := 73) rfl)) (by omega) (zp_r0 (by omega) (by omega)) ?_
        refine zp_load (pc := 131) hx hb (zd_X12_law (131, .aload_n 0, 1, 0, []) (List.mem_of_getElem? (i := 74) rfl)) rfl (j := 2) rfl ?_
        refine zp_getf (n := (b22 : Int)) (pc := 132) hx hb hE hw (zd_X12_law (132, .getfield 42, 3, 0, []) (List.mem_of_getElem? (i := 75) rfl)) (j := 40) rfl rfl rfl hp ((za 22).trans e22) ?_
        refine zp_load (pc := 135) hx hb (zd_X12_law (135, .iload_n 2, 1, 0, []) (List.mem_of_getElem? (i := 76) rfl)) rfl (j := 0) rfl ?_
        refine zp_iald (j := i) (v := (G b22 (2000 + i))) (pc := 136) hx hb hw (zd_X12_law (136, .iaload, 1, 0, []) (List.mem_of_getElem? (i := 77) rfl)) (show zp_ia 1 67 = some (96, 0, 0, (-2147483648), 2147483647) from rfl) hq22 (by omega) (by omega) rfl (fun hk191 => ?_)
        have hk191b := zp_int hk191
        have hst : zk_ok u.1 (zk_fj zl_T (900 * nl + i + 182)) (G b22 (2000 + i)) := by
          obtain ⟨x, lo, hi, y1, y2, y3⟩ := zl_rg3 (c := i / 8) (j := i % 8) hnl6 (by omega) (by omega)
          rw [show (900 * nl + i + 182) = 180 + 900 * nl + 2 + (8 * (i / 8) + i % 8) by omega, y1]
          by_cases h36 : 3 ≤ i % 8 ∧ i % 8 ≤ 6
          · obtain ⟨rfl, rfl⟩ := y2 h36.1 h36.2
            have hb := (hok (i / 8) (by omega)).1 (i % 8) h36.1 h36.2
            rw [show 8 * (i / 8) + i % 8 = i by omega, zv_eq e22, ← z22] at hb
            exact zp_o0 (by omega) (by omega) (by omega) (by omega)
          · obtain ⟨rfl, rfl⟩ := y3 (by omega)
            exact zp_o0 (by omega) (by omega) (by omega) (by omega)
        refine zp_iastU (j := (900 * nl + i + 182)) (pc := 137) hx hb hw heff (zd_X12_law (137, .iastore, 1, 0, []) (List.mem_of_getElem? (i := 78) rfl)) zl_T59 rfl (zl_kd _) hq3 (by omega) (show (900 * nl + i + 182) < 5580 by omega) (by omega) hst (Or.inl (List.mem_singleton.mpr rfl)) ⟨1003, rfl, zp_1003 (by omega) (by omega)⟩ ?_
        refine zp_iinc (L' := [(2, 0, ((i : Int) + 1)), (1, 0, (900 * (nl : Int) + 180)), (0, 2, (a : Int))]) (n := ((i : Int) + 1)) (pc := 138) hx hb hnL (zd_X12_law (138, .iinc 2 1, 3, 0, []) (List.mem_of_getElem? (i := 79) rfl)) (j := 0) rfl (by omega) (zp_r0 (by omega) (by omega)) rfl rfl ?_
        refine zp_goto (tgt := 111) (pc := 141) hx hb (zd_X12_law (141, .goto (-30), 3, 0, []) (List.mem_of_getElem? (i := 80) rfl)) rfl ?_
        refine ih (i + 1) Ge _ ncl nc (by omega) (by omega) hnl6 e3 e22 e24 e25 e20 e21 hncl e23 hnc hok (fun k => (zp_set_ne (Or.inl (zp_pne hp hq3 (by decide)))).trans (za k)) (fun k => (zp_set_ne (Or.inl (zp_pne hq22 hq3 (by decide)))).trans (z22 k)) (fun k => (zp_set_ne (Or.inl (zp_pne hq24 hq3 (by decide)))).trans (z24 k)) (fun k => (zp_set_ne (Or.inl (zp_pne hq25 hq3 (by decide)))).trans (z25 k)) (fun j hj => (zp_set_ne (Or.inr (by omega))).trans (r0 j (by omega))) ((zp_set_ne (Or.inr (by omega))).trans r1) (fun j hj => ?_)
        by_cases hji : j = i
        · subst hji
          exact (zp_set_eq rfl (by omega)).trans (z22 _)
        · exact (zp_set_ne (Or.inr (by omega))).trans (r2 j (by omega))
  have h64 : ∀ (G : Nat → Nat → Int), nl < 6 → zl_in a G → (∀ k, G b3 k = zp_n u.2.1 b3 k) → G a 3 = (b3 : Int) → G a 22 = (b22 : Int) → G a 24 = (b24 : Int) → G a 25 = (b25 : Int) → zp_J p l e R s m args below meth c Q w u [] 64 [(0, 2, (a : Int))] [] u.1 G := by
    intro G hnl6 hin z3 g3 g22 g24 g25
    obtain ⟨i1, i2, i3, i4, i5, i6⟩ := hin
    refine zp_load (pc := 64) hx hb (zd_X12_law (64, .aload_n 0, 1, 0, []) (List.mem_of_getElem? (i := 33) rfl)) rfl (j := 0) rfl ?_
    refine zp_call (pc := 65) (how := 0) (idx := 385) (mi := 235) (S := []) hx hb hE hw heff hrm (zX_et hW) rfl (j := 37) rfl rfl (by decide +kernel) (zd_X12_law (65, .invokevirtual 385, 3, 0, []) (List.mem_of_getElem? (i := 34) rfl)) [(a : Int)] rfl ⟨zp_o2 hp, trivial⟩ (Nat.le_of_ble_eq_true rfl) i1 (fun al hal rne Pe Ge hexte hfre hoke hcse hpsie => ?_)
    obtain rfl := List.mem_singleton.mp hal
    obtain ⟨rfl, he20, he19⟩ := hpsie
    have he20 : Ge a 20 = 0 := he20
    have he19 : Ge a 19 = 0 → G a 19 = 0 := he19
    refine zp_kn (k := 19) (a := a) (G := Ge) hw (show zp_fd 92 19 = some (12, 0, 0, 0, 1) from rfl) rfl hp (fun hk19 => ?_)
    have hx19 := zp_int hk19
    refine zp_load (pc := 68) hx hb (zd_X12_law (68, .aload_n 0, 1, 0, []) (List.mem_of_getElem? (i := 35) rfl)) rfl (j := 0) rfl ?_
    refine zp_getf (n := (Ge a 19)) (pc := 69) hx hb hE hw (zd_X12_law (69, .getfield 240, 3, 0, []) (List.mem_of_getElem? (i := 36) rfl)) (j := 37) rfl rfl rfl hp rfl ?_
    refine zp_if (pc := 72) (tgt := 82) hx hb (zd_X12_law (72, .ifCond .eq 10, 3, 0, []) (List.mem_of_getElem? (i := 37) rfl)) rfl (fun (hc192 : (Ge a 19) = 0) => ?_) (fun (hc192 : ¬ ((Ge a 19) = 0)) => ?_)
    · have hb0 : G a 19 = 0 := he19 (by omega)
      obtain ⟨ncl, hncl⟩ := zp_nat i2
      obtain ⟨nc, hnc⟩ := zp_nat i4
      refine zp_kn (k := 23) (a := a) (G := Ge) hw (show zp_fd 92 23 = some (12, 0, 0, 0, 400) from rfl) rfl hp (fun hk23 => ?_)
      have hx23 := zp_int hk23
      have e3 : Ge a 3 = (b3 : Int) := ((zp_nf hfre hp rfl).trans g3)
      have e22 : Ge a 22 = (b22 : Int) := ((zp_nf hfre hp rfl).trans g22)
      have e24 : Ge a 24 = (b24 : Int) := ((zp_nf hfre hp rfl).trans g24)
      have e25 : Ge a 25 = (b25 : Int) := ((zp_nf hfre hp rfl).trans g25)
      have e21 : Ge a 21 = (ncl : Int) := (zp_nf hfre hp rfl).trans hncl
      have e23 : Ge a 23 = (nc : Int) := (zp_nf hfre hp rfl).trans hnc
      have hok : ∀ c, c < ncl → zl_ok a Ge c := fun c hc => zl_keep (i6 hb0 c (by omega)) (fun j hj => by rw [zv_eq e22, zv_eq g22, zp_nc hfre hq22 rfl]) (by omega) (fun q hq => ⟨by rw [zv_eq e24, zv_eq g24, zp_nc hfre hq24 rfl], by rw [zv_eq e25, zv_eq g25, zp_nc hfre hq25 rfl]⟩)
      refine zp_weak (xs := [b3]) ?_
      refine zp_const (pc := 82) hx hb (zd_X12_law (82, .sipush 180, 3, 0, []) (List.mem_of_getElem? (i := 42) rfl)) rfl rfl ?_
      refine zp_const (pc := 85) hx hb (zd_X12_law (85, .sipush 900, 3, 0, []) (List.mem_of_getElem? (i := 43) rfl)) rfl rfl ?_
      refine zp_load (pc := 88) hx hb (zd_X12_law (88, .aload_n 0, 1, 0, []) (List.mem_of_getElem? (i := 44) rfl)) rfl (j := 0) rfl ?_
      refine zp_getf (n := (b3 : Int)) (pc := 89) hx hb hE hw (zd_X12_law (89, .getfield 13, 3, 0, []) (List.mem_of_getElem? (i := 45) rfl)) (j := 21) rfl rfl rfl hp ((zp_nf hfre hp rfl).trans g3) ?_
      refine zp_const (pc := 92) hx hb (zd_X12_law (92, .iconst 3, 1, 0, []) (List.mem_of_getElem? (i := 46) rfl)) rfl rfl ?_
      refine zp_ialdT (j := 3) (v := (nl : Int)) (pc := 93) hx hb hw (zd_X12_law (93, .iaload, 1, 0, []) (List.mem_of_getElem? (i := 47) rfl)) zl_T59 rfl (zl_kd 3) hq3 rfl (show 3 < 5580 by decide) ((zp_nc hfre hq3 rfl (2000 + 3)).trans ((z3 _).trans hnl)) (fun hk193 => ?_)
      rw [zl_f3] at hk193
      have hk193b := zp_int hk193
      refine zp_mul (n := (900 * (nl : Int))) (pc := 94) hx hb (zd_X12_law (94, .imul, 1, 0, []) (List.mem_of_getElem? (i := 48) rfl)) (by omega) (zp_r0 (by omega) (by omega)) ?_
      refine zp_add (n := (900 * (nl : Int) + 180)) (pc := 95) hx hb (zd_X12_law (95, .iadd, 1, 0, []) (List.mem_of_getElem? (i := 49) rfl)) (by omega) (zp_r0 (by omega) (by omega)) ?_
      refine zp_store (L' := [(1, 0, (900 * (nl : Int) + 180)), (0, 2, (a : Int))]) (pc := 96) hx hb hnL (zd_X12_law (96, .istore_n 1, 1, 0, []) (List.mem_of_getElem? (i := 50) rfl)) rfl rfl rfl ?_
      refine zp_load (pc := 97) hx hb (zd_X12_law (97, .aload_n 0, 1, 0, []) (List.mem_of_getElem? (i := 51) rfl)) rfl (j := 1) rfl ?_
      refine zp_getf (n := (b3 : Int)) (pc := 98) hx hb hE hw (zd_X12_law (98, .getfield 13, 3, 0, []) (List.mem_of_getElem? (i := 52) rfl)) (j := 21) rfl rfl rfl hp ((zp_nf hfre hp rfl).trans g3) ?_
      refine zp_load (pc := 101) hx hb (zd_X12_law (101, .iload_n 1, 1, 0, []) (List.mem_of_getElem? (i := 53) rfl)) rfl (j := 0) rfl ?_
      refine zp_const (pc := 102) hx hb (zd_X12_law (102, .iconst 1, 1, 0, []) (List.mem_of_getElem? (i := 54) rfl)) rfl rfl ?_
      refine zp_add (n := (900 * (nl : Int) + 181)) (pc := 103) hx hb (zd_X12_law (103, .iadd, 1, 0, []) (List.mem_of_getElem? (i := 55) rfl)) (by omega) (zp_r0 (by omega) (by omega)) ?_
      refine zp_load (pc := 104) hx hb (zd_X12_law (104, .aload_n 0, 1, 0, []) (List.mem_of_getElem? (i := 56) rfl)) rfl (j := 1) rfl ?_
      refine zp_getf (n := (ncl : Int)) (pc := 105) hx hb hE hw (zd_X12_law (105, .getfield 371, 3, 0, []) (List.mem_of_getElem? (i := 57) rfl)) (j := 39) rfl rfl rfl hp e21 ?_
      have hst : zk_ok u.1 (zk_fj zl_T (900 * nl + 181)) (ncl : Int) := by
        obtain ⟨x, hx0⟩ := zl_rg1 hnl6
        rw [show (900 * nl + 181) = 180 + 900 * nl + 1 by omega, hx0]
        exact zp_o0 (by omega) (by omega) (by omega) (by omega)
      refine zp_iastU (j := (900 * nl + 181)) (pc := 108) hx hb hw heff (zd_X12_law (108, .iastore, 1, 0, []) (List.mem_of_getElem? (i := 58) rfl)) zl_T59 rfl (zl_kd _) hq3 (by omega) (show (900 * nl + 181) < 5580 by omega) (by omega) hst (Or.inl (List.mem_singleton.mpr rfl)) ⟨1003, rfl, zp_1003 (by omega) (by omega)⟩ ?_
      refine zp_const (pc := 109) hx hb (zd_X12_law (109, .iconst 0, 1, 0, []) (List.mem_of_getElem? (i := 59) rfl)) rfl rfl ?_
      refine zp_store (L' := [(2, 0, 0), (1, 0, (900 * (nl : Int) + 180)), (0, 2, (a : Int))]) (pc := 110) hx hb hnL (zd_X12_law (110, .istore_n 2, 1, 0, []) (List.mem_of_getElem? (i := 60) rfl)) rfl rfl rfl ?_
      have hz3 : ∀ k, Ge b3 k = zp_n u.2.1 b3 k := fun k => (zp_nc hfre hq3 rfl k).trans (z3 k)
      exact loop1 (8 * ncl + 1) 0 Ge _ ncl nc (by omega) (by omega) hnl6 e3 e22 e24 e25 he20 e21 (by omega) e23 (by omega) hok (fun k => zp_set_ne (Or.inl (zp_pne hp hq3 (by decide)))) (fun k => zp_set_ne (Or.inl (zp_pne hq22 hq3 (by decide)))) (fun k => zp_set_ne (Or.inl (zp_pne hq24 hq3 (by decide)))) (fun k => zp_set_ne (Or.inl (zp_pne hq25 hq3 (by decide)))) (fun j hj => (zp_set_ne (Or.inr (by omega))).trans (hz3 _)) zp_set_self (fun j hj => absurd hj (Nat.not_lt_zero j))
    · refine zp_load (pc := 75) hx hb (zd_X12_law (75, .aload_n 0, 1, 0, []) (List.mem_of_getElem? (i := 38) rfl)) rfl (j := 0) rfl ?_
      refine zp_const (pc := 76) hx hb (zd_X12_law (76, .bipush (-6), 2, 0, []) (List.mem_of_getElem? (i := 39) rfl)) rfl rfl ?_
      refine zp_call (pc := 78) (how := 0) (idx := 170) (mi := 183) (S := []) hx hb hE hw heff hrm (zX_te hW) rfl (j := 0) rfl rfl (by decide +kernel) (zd_X12_law (78, .invokevirtual 170, 3, 0, []) (List.mem_of_getElem? (i := 40) rfl)) [(a : Int), (-6)] rfl ⟨zp_o2 hp, zp_o0 (by omega) (by omega) (by omega) (by omega), trivial⟩ (Nat.le_of_ble_eq_true rfl) trivial (fun al hal rnt Pt Gt hextt hfrt hokt hcst hpsit => ?_)
      obtain rfl := List.mem_singleton.mp hal
      have hrt := zp_int (hokt _ rfl).1
      obtain ⟨rfl, hrnt⟩ := hpsit
      have hrnt : rnt = (-6) := hrnt
      refine zp_iret (pc := 81) (n := rnt) hx hb hE hQ hU5 rfl (by decide) (zd_X12_law (81, .ireturn, 1, 0, []) (List.mem_of_getElem? (i := 41) rfl)) (j := 0) rfl (zp_o0 (by omega) (by omega) (by omega) (by omega)) ?_
      rw [hps]
      refine ⟨rfl, ?_⟩
      show Gt a 20 = 0
      exact ((zp_nf hfrt hp rfl).trans he20)
  have loop0 : ∀ (n : Nat) (G : Nat → Nat → Int), 400 - G a 14 < n → nl < 6 → zl_in a G → (∀ k, G b3 k = zp_n u.2.1 b3 k) → G a 3 = (b3 : Int) → G a 22 = (b22 : Int) → G a 24 = (b24 : Int) → G a 25 = (b25 : Int) → zp_J p l e R s m args below meth c Q w u [] 37 [(0, 2, (a : Int))] [] u.1 G := by
    intro n
    induction n with
    | zero =>
      intro G hn hnl6 hin z3 g3 g22 g24 g25
      refine zp_kn (k := 13) (a := a) (G := G) hw (show zp_fd 92 13 = some (12, 0, 0, 0, 400) from rfl) rfl hp (fun hk13 => ?_)
      have hx13 := zp_int hk13
      have ht := hin.1
      obtain ⟨t1, t2, t3, -, -, -⟩ := ht
      exfalso
      omega
    | succ n ih =>
      intro G hn hnl6 hin z3 g3 g22 g24 g25
      refine zp_kn (k := 13) (a := a) (G := G) hw (show zp_fd 92 13 = some (12, 0, 0, 0, 400) from rfl) rfl hp (fun hk13 => ?_)
      have hx13 := zp_int hk13
      have hin2 := hin
      obtain ⟨i1, i2, i3, i4, i5, i6⟩ := hin2
      have ht := i1
      obtain ⟨t1, t2, t3, -, -, t6⟩ := ht
      refine zp_load (pc := 37) hx hb (zd_X12_law (37, .aload_n 0, 1, 0, []) (List.mem_of_getElem? (i := 21) rfl)) rfl (j := 0) rfl ?_
      refine zp_getf (n := (G a 19)) (pc := 38) hx hb hE hw (zd_X12_law (38, .getfield 240, 3, 0, []) (List.mem_of_getElem? (i := 22) rfl)) (j := 37) rfl rfl rfl hp rfl ?_
      refine zp_if (pc := 41) (tgt := 64) hx hb (zd_X12_law (41, .ifCond .ne 23, 3, 0, []) (List.mem_of_getElem? (i := 23) rfl)) rfl (fun (hc194 : ¬ (G a 19) = 0) => ?_) (fun (hc194 : ¬ (¬ (G a 19) = 0)) => ?_)
      · exact h64 G hnl6 hin z3 g3 g22 g24 g25
      · refine zp_load (pc := 44) hx hb (zd_X12_law (44, .aload_n 0, 1, 0, []) (List.mem_of_getElem? (i := 24) rfl)) rfl (j := 0) rfl ?_
        refine zp_const (pc := 45) hx hb (zd_X12_law (45, .bipush 59, 2, 0, []) (List.mem_of_getElem? (i := 25) rfl)) rfl rfl ?_
        refine zp_call (pc := 47) (how := 0) (idx := 313) (mi := 221) (S := []) hx hb hE hw heff hrm (zX_si hW) rfl (j := 23) rfl rfl (by decide +kernel) (zd_X12_law (47, .invokevirtual 313, 3, 0, []) (List.mem_of_getElem? (i := 26) rfl)) [(a : Int), 59] rfl ⟨zp_o2 hp, zp_o0 (by decide) (by decide) (by decide) (by decide), trivial⟩ (Nat.le_of_ble_eq_true rfl) trivial (fun al hal rns Ps Gs hexts hfrs hoks hcss hpsis => ?_)
        obtain rfl := List.mem_singleton.mp hal
        have hrs := zp_int (hoks _ rfl).1
        obtain ⟨hPes, hGes, hts⟩ := hpsis
        rw [hPes, hGes]
        have hts : rns = 1 → G a 16 = 3 := hts
        refine zp_if (pc := 50) (tgt := 64) hx hb (zd_X12_law (50, .ifCond .eq 14, 3, 0, []) (List.mem_of_getElem? (i := 27) rfl)) rfl (fun (hc195 : rns = 0) => ?_) (fun (hc195 : ¬ (rns = 0)) => ?_)
        · exact h64 G hnl6 hin z3 g3 g22 g24 g25
        · refine zp_load (pc := 53) hx hb (zd_X12_law (53, .aload_n 0, 1, 0, []) (List.mem_of_getElem? (i := 28) rfl)) rfl (j := 0) rfl ?_
          refine zp_call (pc := 54) (how := 0) (idx := 244) (mi := 212) (S := []) hx hb hE hw heff hrm (zX_nx hW) rfl (j := 14) rfl rfl (by decide +kernel) (zd_X12_law (54, .invokevirtual 244, 3, 0, []) (List.mem_of_getElem? (i := 29) rfl)) [(a : Int)] rfl ⟨zp_o2 hp, trivial⟩ (Nat.le_of_ble_eq_true rfl) (show 0 ≤ G a 15 ∧ G a 15 ≤ G a 13 by omega) (fun al hal rnn Pn Gn hextn hfrn hokn hcsn hpsin => ?_)
          obtain rfl := List.mem_singleton.mp hal
          obtain ⟨rfl, hxn⟩ := hpsin
          have hxn : G a 15 ≤ Gn a 14 ∧ Gn a 14 ≤ Gn a 15 ∧ Gn a 15 ≤ G a 13 ∧ 0 ≤ Gn a 16 ∧ Gn a 16 ≤ 3 ∧ (Gn a 16 ≠ 0 → Gn a 14 < Gn a 15) := hxn
          have n13 : Gn a 13 = G a 13 := zp_nf hfrn hp rfl
          have n19 : Gn a 19 = G a 19 := zp_nf hfrn hp rfl
          have n21 : Gn a 21 = G a 21 := zp_nf hfrn hp rfl
          have n23 : Gn a 23 = G a 23 := zp_nf hfrn hp rfl
          have n22 : Gn a 22 = (b22 : Int) := (zp_nf hfrn hp rfl).trans g22
          have n24 : Gn a 24 = (b24 : Int) := (zp_nf hfrn hp rfl).trans g24
          have n25 : Gn a 25 = (b25 : Int) := (zp_nf hfrn hp rfl).trans g25
          have hlt := t6 (by omega)
          have hinn : zl_in a Gn := ⟨by unfold zs_tk; omega, by omega, by omega, by omega, by omega, fun z c hc => zl_keep (i6 (by omega) c (by omega)) (fun j hj => by rw [zv_eq n22, zv_eq g22, zp_nc hfrn hq22 rfl]) (by omega) (fun q hq => ⟨by rw [zv_eq n24, zv_eq g24, zp_nc hfrn hq24 rfl], by rw [zv_eq n25, zv_eq g25, zp_nc hfrn hq25 rfl]⟩)⟩
          refine zp_load (pc := 57) hx hb (zd_X12_law (57, .aload_n 0, 1, 0, []) (List.mem_of_getElem? (i := 30) rfl)) rfl (j := 0) rfl ?_
          refine zp_call (pc := 58) (how := 0) (idx := 382) (mi := 215) (S := []) hx hb hE hw heff hrm (zX_la hW) rfl (j := 17) rfl rfl (by decide +kernel) (zd_X12_law (58, .invokevirtual 382, 3, 0, []) (List.mem_of_getElem? (i := 31) rfl)) [(a : Int)] rfl ⟨zp_o2 hp, trivial⟩ (Nat.le_of_ble_eq_true rfl) hinn (fun al hal rnl Pl Gl hextl hfrl hokl hcsl hpsil => ?_)
          obtain rfl := List.mem_singleton.mp hal
          obtain ⟨rfl, hl1, hl2, hl3⟩ := hpsil
          have hl1 : zl_in a Gl := hl1
          have hl2 : Gn a 14 ≤ Gl a 14 := hl2
          refine zp_goto (tgt := 37) (pc := 61) hx hb (zd_X12_law (61, .goto (-24), 3, 0, []) (List.mem_of_getElem? (i := 32) rfl)) rfl ?_
          exact ih Gl (by omega) hnl6 hl1 (fun k => (zp_nc hfrl hq3 rfl k).trans ((zp_nc hfrn hq3 rfl k).trans (z3 k))) (((zp_nf hfrl hp rfl).trans ((zp_nf hfrn hp rfl).trans g3))) (((zp_nf hfrl hp rfl).trans ((zp_nf hfrn hp rfl).trans g22))) (((zp_nf hfrl hp rfl).trans ((zp_nf hfrn hp rfl).trans g24))) (((zp_nf hfrl hp rfl).trans ((zp_nf hfrn hp rfl).trans g25)))
  refine zp_load (pc := 0) hx hb (zd_X12_law (0, .aload_n 0, 1, 0, []) (List.mem_of_getElem? (i := 0) rfl)) rfl (j := 0) rfl ?_
  refine zp_const (pc := 1) hx hb (zd_X12_law (1, .iconst 0, 1, 0, []) (List.mem_of_getElem? (i := 1) rfl)) rfl rfl ?_
  refine zp_putf (pc := 2) hx hb hE hw heff (zd_X12_law (2, .putfield 161, 3, 0, []) (List.mem_of_getElem? (i := 2) rfl)) (j := 18) rfl rfl rfl hp (zp_o0 (by decide) (by decide) (by decide) (by decide)) ?_
  refine zp_load (pc := 5) hx hb (zd_X12_law (5, .aload_n 0, 1, 0, []) (List.mem_of_getElem? (i := 3) rfl)) rfl (j := 0) rfl ?_
  refine zp_getf (n := (b3 : Int)) (pc := 6) hx hb hE hw (zd_X12_law (6, .getfield 13, 3, 0, []) (List.mem_of_getElem? (i := 4) rfl)) (j := 21) rfl rfl rfl hp ((zp_set_ne (Or.inr (by decide))).trans (hb3)) ?_
  refine zp_const (pc := 9) hx hb (zd_X12_law (9, .iconst 3, 1, 0, []) (List.mem_of_getElem? (i := 5) rfl)) rfl rfl ?_
  refine zp_ialdT (j := 3) (v := (nl : Int)) (pc := 10) hx hb hw (zd_X12_law (10, .iaload, 1, 0, []) (List.mem_of_getElem? (i := 6) rfl)) zl_T59 rfl (zl_kd 3) hq3 rfl (show 3 < 5580 by decide) ((zp_set_ne (Or.inl (zp_pne hq3 hp (by decide)))).trans (hnl)) (fun hk196 => ?_)
  rw [zl_f3] at hk196
  have hk196b := zp_int hk196
  refine zp_const (pc := 11) hx hb (zd_X12_law (11, .bipush 6, 2, 0, []) (List.mem_of_getElem? (i := 7) rfl)) rfl rfl ?_
  refine zp_icmp (pc := 13) (tgt := 28) hx hb (zd_X12_law (13, .if_icmp .ne 15, 3, 0, []) (List.mem_of_getElem? (i := 8) rfl)) rfl (fun (hc197 : ¬ (nl : Int) = 6) => ?_) (fun (hc197 : ¬ (¬ (nl : Int) = 6)) => ?_)
  · refine zp_load (pc := 28) hx hb (zd_X12_law (28, .aload_n 0, 1, 0, []) (List.mem_of_getElem? (i := 16) rfl)) rfl (j := 0) rfl ?_
    refine zp_const (pc := 29) hx hb (zd_X12_law (29, .iconst 0, 1, 0, []) (List.mem_of_getElem? (i := 17) rfl)) rfl rfl ?_
    refine zp_call (pc := 30) (how := 0) (idx := 379) (mi := 210) (S := []) hx hb hE hw heff hrm (zX_bx hW) rfl (j := 12) rfl rfl (by decide +kernel) (zd_X12_law (30, .invokevirtual 379, 3, 0, []) (List.mem_of_getElem? (i := 18) rfl)) [(a : Int), 0] rfl ⟨zp_o2 hp, zp_o0 (by decide) (by decide) (by decide) (by decide), trivial⟩ (Nat.le_of_ble_eq_true rfl) trivial (fun al hal rnb Pb Gb hextb hfrb hokb hcsb hpsib => ?_)
    obtain rfl := List.mem_singleton.mp hal
    obtain ⟨rfl, y1, y2, y3, y4, y5⟩ := hpsib
    have y1 : zs_tk a Gb := y1
    have y2 : Gb a 19 = 0 := y2
    have y4 : Gb a 21 = 0 := y4
    have y5 : Gb a 23 = 0 := y5
    have hinb : zl_in a Gb := ⟨y1, by omega, by omega, by omega, by have := y1.1; omega, fun z c hc => by omega⟩
    refine zp_load (pc := 33) hx hb (zd_X12_law (33, .aload_n 0, 1, 0, []) (List.mem_of_getElem? (i := 19) rfl)) rfl (j := 0) rfl ?_
    refine zp_call (pc := 34) (how := 0) (idx := 382) (mi := 215) (S := []) hx hb hE hw heff hrm (zX_la hW) rfl (j := 17) rfl rfl (by decide +kernel) (zd_X12_law (34, .invokevirtual 382, 3, 0, []) (List.mem_of_getElem? (i := 20) rfl)) [(a : Int)] rfl ⟨zp_o2 hp, trivial⟩ (Nat.le_of_ble_eq_true rfl) hinb (fun al hal rnl Pl Gl hextl hfrl hokl hcsl hpsil => ?_)
    obtain rfl := List.mem_singleton.mp hal
    obtain ⟨rfl, hl1, hl2, hl3⟩ := hpsil
    have hl1 : zl_in a Gl := hl1
    have hq := hl1.1.1
    exact loop0 401 Gl (by omega) (by omega) hl1 (fun k => (zp_nc hfrl hq3 rfl k).trans ((zp_nc hfrb hq3 rfl k).trans (zp_set_ne (Or.inl (zp_pne hq3 hp (by decide)))))) (((zp_nf hfrl hp rfl).trans ((zp_nf hfrb hp rfl).trans ((zp_set_ne (Or.inr (by decide))).trans (hb3))))) (((zp_nf hfrl hp rfl).trans ((zp_nf hfrb hp rfl).trans ((zp_set_ne (Or.inr (by decide))).trans (hb22))))) (((zp_nf hfrl hp rfl).trans ((zp_nf hfrb hp rfl).trans ((zp_set_ne (Or.inr (by decide))).trans (hb24))))) (((zp_nf hfrl hp rfl).trans ((zp_nf hfrb hp rfl).trans ((zp_set_ne (Or.inr (by decide))).trans (hb25)))))
  · refine zp_load (pc := 16) hx hb (zd_X12_law (16, .aload_n 0, 1, 0, []) (List.mem_of_getElem? (i := 9) rfl)) rfl (j := 0) rfl ?_
    refine zp_const (pc := 17) hx hb (zd_X12_law (17, .iconst 0, 1, 0, []) (List.mem_of_getElem? (i := 10) rfl)) rfl rfl ?_
    refine zp_putf (pc := 18) hx hb hE hw heff (zd_X12_law (18, .putfield 228, 3, 0, []) (List.mem_of_getElem? (i := 11) rfl)) (j := 31) rfl rfl rfl hp (zp_o0 (by decide) (by decide) (by decide) (by decide)) ?_
    refine zp_load (pc := 21) hx hb (zd_X12_law (21, .aload_n 0, 1, 0, []) (List.mem_of_getElem? (i := 12) rfl)) rfl (j := 0) rfl ?_
    refine zp_const (pc := 22) hx hb (zd_X12_law (22, .bipush (-5), 2, 0, []) (List.mem_of_getElem? (i := 13) rfl)) rfl rfl ?_
    refine zp_call (pc := 24) (how := 0) (idx := 170) (mi := 183) (S := []) hx hb hE hw heff hrm (zX_te hW) rfl (j := 0) rfl rfl (by decide +kernel) (zd_X12_law (24, .invokevirtual 170, 3, 0, []) (List.mem_of_getElem? (i := 14) rfl)) [(a : Int), (-5)] rfl ⟨zp_o2 hp, zp_o0 (by omega) (by omega) (by omega) (by omega), trivial⟩ (Nat.le_of_ble_eq_true rfl) trivial (fun al hal rnt Pt Gt hextt hfrt hokt hcst hpsit => ?_)
    obtain rfl := List.mem_singleton.mp hal
    have hrt := zp_int (hokt _ rfl).1
    obtain ⟨rfl, hrnt⟩ := hpsit
    have hrnt : rnt = (-5) := hrnt
    refine zp_iret (pc := 27) (n := rnt) hx hb hE hQ hU5 rfl (by decide) (zd_X12_law (27, .ireturn, 1, 0, []) (List.mem_of_getElem? (i := 15) rfl)) (j := 0) rfl (zp_o0 (by omega) (by omega) (by omega) (by omega)) ?_
    rw [hps]
    refine ⟨rfl, ?_⟩
    show Gt a 20 = 0
    exact (((zp_nf hfrt hp rfl).trans ((zp_set_ne (Or.inr (by decide))).trans ((zp_set_ne (Or.inr (by decide))))))).trans hφ
