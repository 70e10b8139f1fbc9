/-! part 7l: Going.copyFrom, with what little holds then -/
def zp_lkG : List zk_L := zt_lk_WoundTown_Going.map (fun r => r.1)
def zp_lcG : List (Nat × Nat × Nat) := zt_lc_WoundTown_Going.map (fun r => r.1)
def zp_EG (K : zk_K) : zk_Ev := (zt_types, zp_lkG, zt_dv, [], [], zp_lcG, K)
theorem zp_lkallG : (zp_lkG.all (zt_lkin "WoundTown$Going") && zp_lcG.all (zt_lcin "WoundTown$Going")) = true := by decide +kernel
theorem zp_methG {l : Launch} {w : zk_W} (hW : zh_W w) {K : zk_K} {pl : Nat} {φ : (Nat → Option Nat) → (Nat → Nat → Int) → List Int → Prop} {ψ : (Nat → Option Nat) → (Nat → Nat → Int) → List Int → (Nat → Option Nat) → (Nat → Nat → Int) → Int → Prop} (hcls : K.1.cls = "WoundTown$Going") (hb0 : (zt_cokb pl K && (zk_e0b (zp_EG K) && (zk_Kk K != 2 && (zk_Kp K).all (fun f => decide (f.1 ≤ 2))))) = true)
    (hJ : ∀ (p : Program) (e : Env) (R : Room) (s : State) (m : MethodId) (args : Array Value) (below : List Frame) (meth : Method) (c : Code) (Q : State → Prop) (u : zk_M), p.tables.exec = Jvm.exec → c.code = K.2.1 → zk_ctx l R s m args meth c w u zt_TB "WoundTown$Going" zt_TB zt_mn (zp_EG K) → Q = MQ below (fun _ st o t => zk_postX w K (zp_B ψ) u.1 u.2.1 u.2.2.1 st t o) args s (zk_Kr K).2.2.1 (zk_Kr K).2.2.2 (fun q => w.2.2.2.1 ≤ q) → u.2.2.2.2.1 = [] → u.2.2.2.1 = zk_Ke K → u.2.2.2.2.2.1 = K.2.2.1 → zk_all2 (zk_ok u.1) (zk_Kp K) u.2.2.1 → φ u.1 (zp_n u.2.1) u.2.2.1 → zp_J p l e R s m args below meth c Q w u [] 0 (zp_L0 0 (zk_Kp K) u.2.2.1) [] u.1 (zp_n u.2.1)) : zk_metX l w zt_dv zt_TB K (zp_A φ) (zp_B ψ) ∧ zk_cok w zt_TB K := by
  simp only [Bool.and_eq_true] at hb0
  obtain ⟨b1, b2, b3, b4⟩ := hb0
  rw [bne_iff_ne] at b3
  have hall := zp_lkallG
  refine zh_methH hW (lk := zp_lkG) (KS := []) (km := []) (lc := zp_lcG) (K := K) (pl := pl) (A := zp_A φ) (B := zp_B ψ) b3 b2 (by rw [hcls]; simp only [Bool.and_eq_true] at hall ⊢; exact ⟨b1, by decide, hall.1, hall.2⟩) (fun K h => absurd h List.not_mem_nil) (fun p e R s m args below meth c Q P0 G0 ps X hx hb hA hps hE hQ H locs ls hG => ?_)
  have hE1 := hE [] P0 G0 (zk_Ke K) (zk_Ka K) ps (zk_Kp K) (zk_all2_len hps).symm (fun _ _ h => h)
  rw [show (zk_ev (zt_types, zp_lkG, zt_dv, ([] : List zk_K), ([] : List Nat), zp_lcG, K)).1.cls = "WoundTown$Going" from hcls] at hE1
  have hJ1 := hJ p e R s m args below meth c Q (P0, G0, ps, zk_Ke K, [], K.2.2.1, X) hx hb hE1 hQ rfl rfl rfl hps hA
  obtain ⟨h1, h2, h3, h4, h5, ⟨lv, h6a, h6b⟩, h7, h8, h9, h10, h11, h12, h13⟩ := hG
  have hlv := zp_L0_ok (fs := zk_Kp K) (ps := ps) (i := 0) (j := 3) (zk_all2_len hps) (fun t f h => by
    show (zk_V0 ++ zk_Kp K)[3 + t]? = some f
    rw [List.getElem?_append_right (by show 3 ≤ 3 + t; omega)]
    show (zk_Kp K)[3 + t - 3]? = some f
    rw [show 3 + t - 3 = t by omega]
    exact h) (fun t n h => by
    rw [List.getElem?_append_right (by show 3 ≤ 3 + t; omega)]
    show ps[3 + t - 3]? = some n
    rw [show 3 + t - 3 = t by omega]
    exact h) h6b
  rw [hlv] at h6a
  exact hJ1 G0 H locs ls rfl ⟨zp_wt.of h5, h7, h8, h9, h13⟩ h6a (zp_ks b4 hps) (fun q h => absurd h List.not_mem_nil)
theorem zp_cp_ne {G : Nat → Nat → Int} {a0 a n b k : Nat} (h : b ≠ a ∨ k < 2000) : zp_cp G a0 a n b k = G b k := by
  unfold zp_cp
  rw [if_neg (fun z => by rcases h with h | h; exact h z.1; omega)]
theorem zp_cp_eq {G : Nat → Nat → Int} {a0 a n q : Nat} (h : q < n) : zp_cp G a0 a n a (2000 + q) = G a0 (2000 + q) := by
  unfold zp_cp
  rw [if_pos ⟨rfl, by omega, by omega⟩]
theorem zp_cp_src {G : Nat → Nat → Int} {a0 a n q : Nat} : zp_cp G a0 a n a0 (2000 + q) = G a0 (2000 + q) := by
  unfold zp_cp
  split
  · rfl
  · rfl
def zK_cf : zk_K := (zt_mn 80, prog_4_method_2_code, 2, (Option.none : Option Jvm.ClassFile.FieldType), 1, 2, [(2, 2, 0, 0), (2, 2, 0, 0)], [(none, [])], [(17, 1001, 0), (18, 1001, 0), (19, 1001, 0), (2, 3, 0), (2, 4, 0), (2, 5, 0), (2, 6, 0)], (1, 60, 0, 0))
def zψ_cf : (Nat → Option Nat) → (Nat → Nat → Int) → List Int → (Nat → Option Nat) → (Nat → Nat → Int) → Int → Prop := fun P G ps P' G' rn => P' = P ∧ ∀ q : Nat, q < 6 → zv G' (zp_0 ps) 1 q = zv G' (ps.getD 1 0).toNat 1 q
theorem zX_cf {l : Launch} {w : zk_W} (hW : zh_W w) : zk_metX l w zt_dv zt_TB zK_cf (zp_A zp_tA) (zp_B zψ_cf) ∧ zk_cok w zt_TB zK_cf := by
  refine zp_methG hW (pl := 892) rfl (by decide +kernel) (fun p e R s m args below meth c Q u hx hb hE hQ hU5 heff hnL hok hφ => ?_)
  have hw := hW.1
  obtain ⟨p0, p1, hps, k0, k1⟩ := zp_ps2 hok
  obtain ⟨a, rfl, hp⟩ := zp_this k0
  have hrm : zk_Kr (zk_ev (zp_EG zK_cf)) = zk_Kr zK_cf := rfl
  rw [hps] at hφ ⊢
  obtain ⟨b, rfl, hpb⟩ := zp_this k1
  show zp_J p l e R s m args below meth c Q w u [] 0 [(0, 2, (a : Int)), (1, 2, (b : Int))] [] u.1 (zp_n u.2.1)
  refine zp_kn (k := 0) (a := a) hw (show zp_fd 2 0 = some (2, 2, 17, 0, 0) from rfl) rfl hp (fun hka0 => ?_)
  obtain ⟨a0, ha0, qa0⟩ := zp_this hka0
  refine zp_kn (k := 0) (a := b) hw (show zp_fd 2 0 = some (2, 2, 17, 0, 0) from rfl) rfl hpb (fun hkb0 => ?_)
  obtain ⟨b0, hb0, qb0⟩ := zp_this hkb0
  refine zp_kn (k := 1) (a := a) hw (show zp_fd 2 1 = some (2, 2, 18, 0, 0) from rfl) rfl hp (fun hka1 => ?_)
  obtain ⟨a1, ha1, qa1⟩ := zp_this hka1
  refine zp_kn (k := 1) (a := b) hw (show zp_fd 2 1 = some (2, 2, 18, 0, 0) from rfl) rfl hpb (fun hkb1 => ?_)
  obtain ⟨b1, hb1, qb1⟩ := zp_this hkb1
  refine zp_kn (k := 2) (a := a) hw (show zp_fd 2 2 = some (2, 2, 19, 0, 0) from rfl) rfl hp (fun hka2 => ?_)
  obtain ⟨a2, ha2, qa2⟩ := zp_this hka2
  refine zp_kn (k := 2) (a := b) hw (show zp_fd 2 2 = some (2, 2, 19, 0, 0) from rfl) rfl hpb (fun hkb2 => ?_)
  obtain ⟨b2, hb2, qb2⟩ := zp_this hkb2
  refine zp_load (pc := 0) hx hb (zd_X2_copyFrom (0, .aload_n 1, 1, 0, []) (List.mem_of_getElem? (i := 0) rfl)) rfl (j := 1) rfl ?_
  refine zp_getf (n := (b0 : Int)) (pc := 1) hx hb hE hw (zd_X2_copyFrom (1, .getfield 9, 3, 0, []) (List.mem_of_getElem? (i := 1) rfl)) (j := 1) rfl rfl rfl hpb hb0 ?_
  refine zp_const (pc := 4) hx hb (zd_X2_copyFrom (4, .iconst 0, 1, 0, []) (List.mem_of_getElem? (i := 2) rfl)) rfl rfl ?_
  refine zp_load (pc := 5) hx hb (zd_X2_copyFrom (5, .aload_n 0, 1, 0, []) (List.mem_of_getElem? (i := 3) rfl)) rfl (j := 0) rfl ?_
  refine zp_getf (n := (a0 : Int)) (pc := 6) hx hb hE hw (zd_X2_copyFrom (6, .getfield 9, 3, 0, []) (List.mem_of_getElem? (i := 4) rfl)) (j := 1) rfl rfl rfl hp ha0 ?_
  refine zp_const (pc := 9) hx hb (zd_X2_copyFrom (9, .iconst 0, 1, 0, []) (List.mem_of_getElem? (i := 5) rfl)) rfl rfl ?_
  refine zp_const (pc := 10) hx hb (zd_X2_copyFrom (10, .bipush 6, 2, 0, []) (List.mem_of_getElem? (i := 6) rfl)) rfl rfl ?_
  refine zp_copy (n := 6) (pc := 12) (idx := 28) (T0 := zt_types.getD 17 (0, 0, 0, [])) (T := zt_types.getD 17 (0, 0, 0, [])) hx hb hE hw heff hrm (zd_X2_copyFrom (12, .invokestatic 28, 3, 0, []) (List.mem_of_getElem? (i := 7) rfl)) (j := 8) rfl rfl rfl rfl rfl qb0 qa0 rfl (Nat.le_of_ble_eq_true rfl) (Nat.le_of_ble_eq_true rfl) (by decide) (fun _ _ => rfl) ⟨by decide, by decide⟩ (by decide) (Or.inr ⟨by decide, by decide⟩) rfl ?_
  obtain ⟨G1, eG1⟩ : ∃ Gz, Gz = zp_cp (zp_n u.2.1) b0 a0 6 := ⟨_, rfl⟩
  rw [← eG1]
  have v1a0 : G1 a 0 = (a0 : Int) := by rw [eG1, zp_cp_ne (Or.inr (by decide))]; exact ha0
  have v1b0 : G1 b 0 = (b0 : Int) := by rw [eG1, zp_cp_ne (Or.inr (by decide))]; exact hb0
  have v1a1 : G1 a 1 = (a1 : Int) := by rw [eG1, zp_cp_ne (Or.inr (by decide))]; exact ha1
  have v1b1 : G1 b 1 = (b1 : Int) := by rw [eG1, zp_cp_ne (Or.inr (by decide))]; exact hb1
  have v1a2 : G1 a 2 = (a2 : Int) := by rw [eG1, zp_cp_ne (Or.inr (by decide))]; exact ha2
  have v1b2 : G1 b 2 = (b2 : Int) := by rw [eG1, zp_cp_ne (Or.inr (by decide))]; exact hb2
  refine zp_load (pc := 15) hx hb (zd_X2_copyFrom (15, .aload_n 1, 1, 0, []) (List.mem_of_getElem? (i := 8) rfl)) rfl (j := 1) rfl ?_
  refine zp_getf (n := (b1 : Int)) (pc := 16) hx hb hE hw (zd_X2_copyFrom (16, .getfield 15, 3, 0, []) (List.mem_of_getElem? (i := 9) rfl)) (j := 2) rfl rfl rfl hpb v1b1 ?_
  refine zp_const (pc := 19) hx hb (zd_X2_copyFrom (19, .iconst 0, 1, 0, []) (List.mem_of_getElem? (i := 10) rfl)) rfl rfl ?_
  refine zp_load (pc := 20) hx hb (zd_X2_copyFrom (20, .aload_n 0, 1, 0, []) (List.mem_of_getElem? (i := 11) rfl)) rfl (j := 0) rfl ?_
  refine zp_getf (n := (a1 : Int)) (pc := 21) hx hb hE hw (zd_X2_copyFrom (21, .getfield 15, 3, 0, []) (List.mem_of_getElem? (i := 12) rfl)) (j := 2) rfl rfl rfl hp v1a1 ?_
  refine zp_const (pc := 24) hx hb (zd_X2_copyFrom (24, .iconst 0, 1, 0, []) (List.mem_of_getElem? (i := 13) rfl)) rfl rfl ?_
  refine zp_const (pc := 25) hx hb (zd_X2_copyFrom (25, .bipush 6, 2, 0, []) (List.mem_of_getElem? (i := 14) rfl)) rfl rfl ?_
  refine zp_copy (n := 6) (pc := 27) (idx := 28) (T0 := zt_types.getD 18 (0, 0, 0, [])) (T := zt_types.getD 18 (0, 0, 0, [])) hx hb hE hw heff hrm (zd_X2_copyFrom (27, .invokestatic 28, 3, 0, []) (List.mem_of_getElem? (i := 15) rfl)) (j := 8) rfl rfl rfl rfl rfl qb1 qa1 rfl (Nat.le_of_ble_eq_true rfl) (Nat.le_of_ble_eq_true rfl) (by decide) (fun _ _ => rfl) ⟨by decide, by decide⟩ (by decide) (Or.inr ⟨by decide, by decide⟩) rfl ?_
  obtain ⟨G2, eG2⟩ : ∃ Gz, Gz = zp_cp G1 b1 a1 6 := ⟨_, rfl⟩
  rw [← eG2]
  have v2a0 : G2 a 0 = (a0 : Int) := by rw [eG2, zp_cp_ne (Or.inr (by decide))]; exact v1a0
  have v2b0 : G2 b 0 = (b0 : Int) := by rw [eG2, zp_cp_ne (Or.inr (by decide))]; exact v1b0
  have v2a1 : G2 a 1 = (a1 : Int) := by rw [eG2, zp_cp_ne (Or.inr (by decide))]; exact v1a1
  have v2b1 : G2 b 1 = (b1 : Int) := by rw [eG2, zp_cp_ne (Or.inr (by decide))]; exact v1b1
  have v2a2 : G2 a 2 = (a2 : Int) := by rw [eG2, zp_cp_ne (Or.inr (by decide))]; exact v1a2
  have v2b2 : G2 b 2 = (b2 : Int) := by rw [eG2, zp_cp_ne (Or.inr (by decide))]; exact v1b2
  refine zp_load (pc := 30) hx hb (zd_X2_copyFrom (30, .aload_n 1, 1, 0, []) (List.mem_of_getElem? (i := 16) rfl)) rfl (j := 1) rfl ?_
  refine zp_getf (n := (b2 : Int)) (pc := 31) hx hb hE hw (zd_X2_copyFrom (31, .getfield 18, 3, 0, []) (List.mem_of_getElem? (i := 17) rfl)) (j := 3) rfl rfl rfl hpb v2b2 ?_
  refine zp_const (pc := 34) hx hb (zd_X2_copyFrom (34, .iconst 0, 1, 0, []) (List.mem_of_getElem? (i := 18) rfl)) rfl rfl ?_
  refine zp_load (pc := 35) hx hb (zd_X2_copyFrom (35, .aload_n 0, 1, 0, []) (List.mem_of_getElem? (i := 19) rfl)) rfl (j := 0) rfl ?_
  refine zp_getf (n := (a2 : Int)) (pc := 36) hx hb hE hw (zd_X2_copyFrom (36, .getfield 18, 3, 0, []) (List.mem_of_getElem? (i := 20) rfl)) (j := 3) rfl rfl rfl hp v2a2 ?_
  refine zp_const (pc := 39) hx hb (zd_X2_copyFrom (39, .iconst 0, 1, 0, []) (List.mem_of_getElem? (i := 21) rfl)) rfl rfl ?_
  refine zp_const (pc := 40) hx hb (zd_X2_copyFrom (40, .bipush 10, 2, 0, []) (List.mem_of_getElem? (i := 22) rfl)) rfl rfl ?_
  refine zp_copy (n := 10) (pc := 42) (idx := 28) (T0 := zt_types.getD 19 (0, 0, 0, [])) (T := zt_types.getD 19 (0, 0, 0, [])) hx hb hE hw heff hrm (zd_X2_copyFrom (42, .invokestatic 28, 3, 0, []) (List.mem_of_getElem? (i := 23) rfl)) (j := 8) rfl rfl rfl rfl rfl qb2 qa2 rfl (Nat.le_of_ble_eq_true rfl) (Nat.le_of_ble_eq_true rfl) (by decide) (fun _ _ => rfl) ⟨by decide, by decide⟩ (by decide) (Or.inr ⟨by decide, by decide⟩) rfl ?_
  obtain ⟨G3, eG3⟩ : ∃ Gz, Gz = zp_cp G2 b2 a2 10 := ⟨_, rfl⟩
  rw [← eG3]
  have v3a0 : G3 a 0 = (a0 : Int) := by rw [eG3, zp_cp_ne (Or.inr (by decide))]; exact v2a0
  have v3b0 : G3 b 0 = (b0 : Int) := by rw [eG3, zp_cp_ne (Or.inr (by decide))]; exact v2b0
  have v3a1 : G3 a 1 = (a1 : Int) := by rw [eG3, zp_cp_ne (Or.inr (by decide))]; exact v2a1
  have v3b1 : G3 b 1 = (b1 : Int) := by rw [eG3, zp_cp_ne (Or.inr (by decide))]; exact v2b1
  have v3a2 : G3 a 2 = (a2 : Int) := by rw [eG3, zp_cp_ne (Or.inr (by decide))]; exact v2a2
  have v3b2 : G3 b 2 = (b2 : Int) := by rw [eG3, zp_cp_ne (Or.inr (by decide))]; exact v2b2
  refine zp_kn (k := 3) (a := b) (G := G3) hw (show zp_fd 2 3 = some (2, 0, 0, (-2147483648), 2147483647) from rfl) rfl hpb (fun hf3 => ?_)
  have hf3b := zp_int hf3
  refine zp_load (pc := 45) hx hb (zd_X2_copyFrom (45, .aload_n 0, 1, 0, []) (List.mem_of_getElem? (i := 24) rfl)) rfl (j := 0) rfl ?_
  refine zp_load (pc := 46) hx hb (zd_X2_copyFrom (46, .aload_n 1, 1, 0, []) (List.mem_of_getElem? (i := 25) rfl)) rfl (j := 1) rfl ?_
  refine zp_getf (n := (G3 b 3)) (pc := 47) hx hb hE hw (zd_X2_copyFrom (47, .getfield 21, 3, 0, []) (List.mem_of_getElem? (i := 26) rfl)) (j := 4) rfl rfl rfl hpb rfl ?_
  refine zp_putf (pc := 50) hx hb hE hw heff (zd_X2_copyFrom (50, .putfield 21, 3, 0, []) (List.mem_of_getElem? (i := 27) rfl)) (j := 4) rfl rfl rfl hp (zp_o0 (by omega) (by omega) (by omega) (by omega)) ?_
  obtain ⟨G4, eG4⟩ : ∃ Gz, Gz = zp_set G3 a 3 (G3 b 3) := ⟨_, rfl⟩
  rw [← eG4]
  have v4a0 : G4 a 0 = (a0 : Int) := by rw [eG4, zp_set_ne (Or.inr (by decide))]; exact v3a0
  have v4b0 : G4 b 0 = (b0 : Int) := by rw [eG4, zp_set_ne (Or.inr (by decide))]; exact v3b0
  have v4a1 : G4 a 1 = (a1 : Int) := by rw [eG4, zp_set_ne (Or.inr (by decide))]; exact v3a1
  have v4b1 : G4 b 1 = (b1 : Int) := by rw [eG4, zp_set_ne (Or.inr (by decide))]; exact v3b1
  have v4a2 : G4 a 2 = (a2 : Int) := by rw [eG4, zp_set_ne (Or.inr (by decide))]; exact v3a2
  have v4b2 : G4 b 2 = (b2 : Int) := by rw [eG4, zp_set_ne (Or.inr (by decide))]; exact v3b2
  refine zp_kn (k := 4) (a := b) (G := G4) hw (show zp_fd 2 4 = some (2, 0, 0, 0, 1) from rfl) rfl hpb (fun hf4 => ?_)
  have hf4b := zp_int hf4
  refine zp_load (pc := 53) hx hb (zd_X2_copyFrom (53, .aload_n 0, 1, 0, []) (List.mem_of_getElem? (i := 28) rfl)) rfl (j := 0) rfl ?_
  refine zp_load (pc := 54) hx hb (zd_X2_copyFrom (54, .aload_n 1, 1, 0, []) (List.mem_of_getElem? (i := 29) rfl)) rfl (j := 1) rfl ?_
  refine zp_getf (n := (G4 b 4)) (pc := 55) hx hb hE hw (zd_X2_copyFrom (55, .getfield 34, 3, 0, []) (List.mem_of_getElem? (i := 30) rfl)) (j := 5) rfl rfl rfl hpb rfl ?_
  refine zp_putf (pc := 58) hx hb hE hw heff (zd_X2_copyFrom (58, .putfield 34, 3, 0, []) (List.mem_of_getElem? (i := 31) rfl)) (j := 5) rfl rfl rfl hp (zp_o0 (by omega) (by omega) (by omega) (by omega)) ?_
  obtain ⟨G5, eG5⟩ : ∃ Gz, Gz = zp_set G4 a 4 (G4 b 4) := ⟨_, rfl⟩
  rw [← eG5]
  have v5a0 : G5 a 0 = (a0 : Int) := by rw [eG5, zp_set_ne (Or.inr (by decide))]; exact v4a0
  have v5b0 : G5 b 0 = (b0 : Int) := by rw [eG5, zp_set_ne (Or.inr (by decide))]; exact v4b0
  have v5a1 : G5 a 1 = (a1 : Int) := by rw [eG5, zp_set_ne (Or.inr (by decide))]; exact v4a1
  have v5b1 : G5 b 1 = (b1 : Int) := by rw [eG5, zp_set_ne (Or.inr (by decide))]; exact v4b1
  have v5a2 : G5 a 2 = (a2 : Int) := by rw [eG5, zp_set_ne (Or.inr (by decide))]; exact v4a2
  have v5b2 : G5 b 2 = (b2 : Int) := by rw [eG5, zp_set_ne (Or.inr (by decide))]; exact v4b2
  refine zp_kn (k := 5) (a := b) (G := G5) hw (show zp_fd 2 5 = some (2, 0, 0, (-2147483648), 2147483647) from rfl) rfl hpb (fun hf5 => ?_)
  have hf5b := zp_int hf5
  refine zp_load (pc := 61) hx hb (zd_X2_copyFrom (61, .aload_n 0, 1, 0, []) (List.mem_of_getElem? (i := 32) rfl)) rfl (j := 0) rfl ?_
  refine zp_load (pc := 62) hx hb (zd_X2_copyFrom (62, .aload_n 1, 1, 0, []) (List.mem_of_getElem? (i := 33) rfl)) rfl (j := 1) rfl ?_
  refine zp_getf (n := (G5 b 5)) (pc := 63) hx hb hE hw (zd_X2_copyFrom (63, .getfield 25, 3, 0, []) (List.mem_of_getElem? (i := 34) rfl)) (j := 6) rfl rfl rfl hpb rfl ?_
  refine zp_putf (pc := 66) hx hb hE hw heff (zd_X2_copyFrom (66, .putfield 25, 3, 0, []) (List.mem_of_getElem? (i := 35) rfl)) (j := 6) rfl rfl rfl hp (zp_o0 (by omega) (by omega) (by omega) (by omega)) ?_
  obtain ⟨G6, eG6⟩ : ∃ Gz, Gz = zp_set G5 a 5 (G5 b 5) := ⟨_, rfl⟩
  rw [← eG6]
  have v6a0 : G6 a 0 = (a0 : Int) := by rw [eG6, zp_set_ne (Or.inr (by decide))]; exact v5a0
  have v6b0 : G6 b 0 = (b0 : Int) := by rw [eG6, zp_set_ne (Or.inr (by decide))]; exact v5b0
  have v6a1 : G6 a 1 = (a1 : Int) := by rw [eG6, zp_set_ne (Or.inr (by decide))]; exact v5a1
  have v6b1 : G6 b 1 = (b1 : Int) := by rw [eG6, zp_set_ne (Or.inr (by decide))]; exact v5b1
  have v6a2 : G6 a 2 = (a2 : Int) := by rw [eG6, zp_set_ne (Or.inr (by decide))]; exact v5a2
  have v6b2 : G6 b 2 = (b2 : Int) := by rw [eG6, zp_set_ne (Or.inr (by decide))]; exact v5b2
  refine zp_kn (k := 6) (a := b) (G := G6) hw (show zp_fd 2 6 = some (2, 0, 0, (-2147483648), 2147483647) from rfl) rfl hpb (fun hf6 => ?_)
  have hf6b := zp_int hf6
  refine zp_load (pc := 69) hx hb (zd_X2_copyFrom (69, .aload_n 0, 1, 0, []) (List.mem_of_getElem? (i := 36) rfl)) rfl (j := 0) rfl ?_
  refine zp_load (pc := 70) hx hb (zd_X2_copyFrom (70, .aload_n 1, 1, 0, []) (List.mem_of_getElem? (i := 37) rfl)) rfl (j := 1) rfl ?_
  refine zp_getf (n := (G6 b 6)) (pc := 71) hx hb hE hw (zd_X2_copyFrom (71, .getfield 38, 3, 0, []) (List.mem_of_getElem? (i := 38) rfl)) (j := 7) rfl rfl rfl hpb rfl ?_
  refine zp_putf (pc := 74) hx hb hE hw heff (zd_X2_copyFrom (74, .putfield 38, 3, 0, []) (List.mem_of_getElem? (i := 39) rfl)) (j := 7) rfl rfl rfl hp (zp_o0 (by omega) (by omega) (by omega) (by omega)) ?_
  obtain ⟨G7, eG7⟩ : ∃ Gz, Gz = zp_set G6 a 6 (G6 b 6) := ⟨_, rfl⟩
  rw [← eG7]
  have v7a0 : G7 a 0 = (a0 : Int) := by rw [eG7, zp_set_ne (Or.inr (by decide))]; exact v6a0
  have v7b0 : G7 b 0 = (b0 : Int) := by rw [eG7, zp_set_ne (Or.inr (by decide))]; exact v6b0
  have v7a1 : G7 a 1 = (a1 : Int) := by rw [eG7, zp_set_ne (Or.inr (by decide))]; exact v6a1
  have v7b1 : G7 b 1 = (b1 : Int) := by rw [eG7, zp_set_ne (Or.inr (by decide))]; exact v6b1
  have v7a2 : G7 a 2 = (a2 : Int) := by rw [eG7, zp_set_ne (Or.inr (by decide))]; exact v6a2
  have v7b2 : G7 b 2 = (b2 : Int) := by rw [eG7, zp_set_ne (Or.inr (by decide))]; exact v6b2
  refine zp_vret (pc := 77) hx hb hE hQ hU5 rfl (by decide) (zd_X2_copyFrom (77, .return_, 1, 0, []) (List.mem_of_getElem? (i := 40) rfl)) (j := 0) rfl ?_
  rw [hps]
  refine ⟨rfl, fun q hq => ?_⟩
  show zv G7 a 1 q = zv G7 b 1 q
  rw [zv_eq v7a1, zv_eq v7b1]
  have ha : G7 a1 (2000 + q) = G2 a1 (2000 + q) := by rw [eG7, zp_set_ne (Or.inl (zp_pne qa1 hp (by decide))), eG6, zp_set_ne (Or.inl (zp_pne qa1 hp (by decide))), eG5, zp_set_ne (Or.inl (zp_pne qa1 hp (by decide))), eG4, zp_set_ne (Or.inl (zp_pne qa1 hp (by decide))), eG3, zp_cp_ne (Or.inl (zp_pne qa1 qa2 (by decide)))]
  have hb1 : G7 b1 (2000 + q) = G2 b1 (2000 + q) := by rw [eG7, zp_set_ne (Or.inl (zp_pne qb1 hp (by decide))), eG6, zp_set_ne (Or.inl (zp_pne qb1 hp (by decide))), eG5, zp_set_ne (Or.inl (zp_pne qb1 hp (by decide))), eG4, zp_set_ne (Or.inl (zp_pne qb1 hp (by decide))), eG3, zp_cp_ne (Or.inl (zp_pne qb1 qa2 (by decide)))]
  rw [ha, hb1, eG2, zp_cp_eq hq, zp_cp_src]
