/-! part 58: the parser: settle -/
theorem zi_wk_and {first nc k : Nat} {fr : Int} {pl pa : Nat → Int} (h : zi_wk first nc (k + 1) fr pl pa) (h1 : pl k = 29 ∨ pl k = 30) : zi_wk first nc k fr pl pa := by
  obtain ⟨a1, a2, a3, a4⟩ := h
  have e : zi_E pl (k + 1) = zi_E pl k + (if pl k = 29 ∨ pl k = 30 then 0 else 1) := rfl
  rw [if_pos h1] at e
  exact ⟨a1, by omega, by omega, fun i hi => a4 i (by omega)⟩
theorem zi_wk_emit {first nc k : Nat} {fr : Int} {pl pa : Nat → Int} (h : zi_wk first nc (k + 1) fr pl pa) (h1 : ¬ (pl k = 29 ∨ pl k = 30)) : zi_wk first (nc + 1) k fr pl pa := by
  obtain ⟨a1, a2, a3, a4⟩ := h
  have e : zi_E pl (k + 1) = zi_E pl k + (if pl k = 29 ∨ pl k = 30 then 0 else 1) := rfl
  rw [if_neg h1] at e
  refine ⟨by omega, by omega, by omega, fun i hi => ?_⟩
  obtain ⟨b1, b2, b3⟩ := a4 i (by omega)
  exact ⟨b1, b2, fun z => ⟨(b3 z).1, by have := (b3 z).2; omega⟩⟩
def zs_st (nc nc' pd pd' : Nat) (op ar op' ar' pl pa : Nat → Int) : Prop := ∀ (first : Nat) (fr : Int), zi_wk first nc pd fr pl pa → zi_wk first nc' pd' fr pl pa ∧ (∀ q, q < first → op' q = op q ∧ ar' q = ar q) ∧ (zi_wf first 1 nc pd op ar pl pa → zi_wf first 1 nc' pd' op' ar' pl pa)
def zs_set (least : Int) (a : Nat) (G G' : Nat → Nat → Int) : Prop := ∃ nc pd nc' pd' : Nat, G a 23 = nc ∧ G a 29 = pd ∧ G' a 23 = nc' ∧ G' a 29 = pd' ∧ pd' ≤ pd ∧ nc ≤ nc' ∧ (∀ i, i < pd → zbinds (zv G a 27 i) < least → i < pd') ∧ (∀ i, zv G' a 27 i = zv G a 27 i) ∧ (∀ i, zv G' a 28 i = zv G a 28 i) ∧ zs_st nc nc' pd pd' (zv G a 24) (zv G a 25) (zv G' a 24) (zv G' a 25) (zv G a 27) (zv G a 28)
theorem zs_st_and {nc k q0 : Nat} {op ar op' ar' pl pa : Nat → Int} (h1 : pl k = 29 ∨ pl k = 30) (h2 : pa k = q0) (ho : ∀ q, op' q = op q) (ha : ∀ q, ar' q = if q = q0 then (nc : Int) else ar q) : zs_st nc nc (k + 1) k op ar op' ar' pl pa := by
  intro first fr hw
  have h3 := (hw.2.2.2 k (by omega)).2.2 h1
  rw [h2] at h3
  refine ⟨zi_wk_and hw h1, fun q hq => ⟨ho q, by rw [ha, if_neg (by omega)]⟩, fun hf => ?_⟩
  have h4 := zi_patch hf h1 h2 (by omega) (ar' := ar') (fun q hq => by rw [ha, if_neg hq]) (by rw [ha, if_pos rfl])
  exact zi_wf_congr h4 (fun q _ => ho q) (fun q _ => rfl) (fun i _ => rfl) (fun i _ => rfl)
theorem zs_st_emit {nc k : Nat} {op ar op' ar' pl pa : Nat → Int} (h1 : ¬ (pl k = 29 ∨ pl k = 30)) (h3 : pl k < 31) (ho : ∀ q, op' q = if q = nc then pl k else op q) (ha : ∀ q, ar' q = if q = nc then 0 else ar q) : zs_st nc (nc + 1) (k + 1) k op ar op' ar' pl pa := by
  intro first fr hw
  have h4 := hw.2.2.2 k (by omega)
  have h0 := hw.1
  refine ⟨zi_wk_emit hw h1, fun q hq => ⟨by rw [ho, if_neg (by omega)], by rw [ha, if_neg (by omega)]⟩, fun hf => ?_⟩
  exact zi_emit h0 hf (fun i hi hz => ((hw.2.2.2 i (by omega)).2.2 hz).2) (fun q hq => by rw [ho, if_neg (by omega)]) (fun q hq => by rw [ha, if_neg (by omega)]) (by rw [ho, if_pos rfl]) h4.1 (by omega)
theorem zs_set_rf {least : Int} {a : Nat} {G : Nat → Nat → Int} {nc pd : Nat} (h1 : G a 23 = nc) (h2 : G a 29 = pd) : zs_set least a G G := ⟨nc, pd, nc, pd, h1, h2, h1, h2, Nat.le_refl _, Nat.le_refl _, fun i hi _ => hi, fun _ => rfl, fun _ => rfl, fun first fr h => ⟨h, fun _ _ => ⟨rfl, rfl⟩, fun h => h⟩⟩
theorem zs_set_step {least : Int} {a nc k nc3 : Nat} {G G2 G3 : Nat → Nat → Int} (h : zs_set least a G G2) (h1 : G2 a 23 = nc) (h2 : G2 a 29 = ((k + 1 : Nat) : Int)) (h3 : G3 a 23 = nc3) (h4 : G3 a 29 = k) (h5 : ∀ i, zv G3 a 27 i = zv G2 a 27 i) (h6 : ∀ i, zv G3 a 28 i = zv G2 a 28 i) (h7 : ¬ zbinds (zv G2 a 27 k) < least) (h8 : nc ≤ nc3) (h9 : zs_st nc nc3 (k + 1) k (zv G2 a 24) (zv G2 a 25) (zv G3 a 24) (zv G3 a 25) (zv G2 a 27) (zv G2 a 28)) : zs_set least a G G3 := by
  obtain ⟨nc0, pd0, nc', pd', g1, g2, g3, g4, g5, g6, g7, g8, g9, g10⟩ := h
  obtain rfl : nc' = nc := by omega
  obtain rfl : pd' = k + 1 := by omega
  have e27 : zv G2 a 27 = zv G a 27 := funext g8
  have e28 : zv G2 a 28 = zv G a 28 := funext g9
  rw [e27, e28] at h9
  refine ⟨nc0, pd0, nc3, k, g1, g2, h3, h4, by omega, by omega, fun i hi hb => ?_, fun i => (h5 i).trans (g8 i), fun i => (h6 i).trans (g9 i), fun first fr hw => ?_⟩
  · have := g7 i hi hb
    by_cases hik : i = k
    · subst hik
      rw [g8] at h7
      exact absurd hb h7
    · omega
  · obtain ⟨y1, y2, y3⟩ := g10 first fr hw
    obtain ⟨z1, z2, z3⟩ := h9 first fr y1
    exact ⟨z1, fun q hq => ⟨(z2 q hq).1.trans (y2 q hq).1, (z2 q hq).2.trans (y2 q hq).2⟩, fun hf => z3 (y3 hf)⟩
def zK_se : zk_K := (zt_mn 231, prog_14_method_47_code, 2, (Option.none : Option Jvm.ClassFile.FieldType), 1, 12, [(2, 92, 0, 0), (0, 0, (-2147483648), 2147483647)], [(none, [])], [(92, 29, 0), (92, 23, 0), (68, 1001, 0), (69, 1001, 0)], (1, 40, 0, 0))
def zφ_se : (Nat → Option Nat) → (Nat → Nat → Int) → List Int → Prop := fun _ G ps => ∃ (first nc pd : Nat) (fr : Int), G (zp_0 ps) 23 = nc ∧ G (zp_0 ps) 29 = pd ∧ zi_wk first nc pd fr (zv G (zp_0 ps) 27) (zv G (zp_0 ps) 28) ∧ fr ≤ 400 ∧ 1 ≤ ps.getD 1 0
def zψ_se : (Nat → Option Nat) → (Nat → Nat → Int) → List Int → (Nat → Option Nat) → (Nat → Nat → Int) → Int → Prop := fun P G ps P' G' _ => P' = P ∧ zs_set (ps.getD 1 0) (zp_0 ps) G G' ∧ ∀ pd' : Nat, G' (zp_0 ps) 29 = pd' → pd' = 0 ∨ zbinds (zv G (zp_0 ps) 27 (pd' - 1)) < ps.getD 1 0
theorem zX_se {l : Launch} {w : zk_W} (hW : zh_W w) : zk_metX l w zt_dv zt_TB zK_se (zp_A zφ_se) (zp_B zψ_se) ∧ zk_cok w zt_TB zK_se := by
  refine zp_meth hW (pl := 1765) rfl (by decide +kernel) (fun p e R s m args below meth c Q u hx hb hE hQ hU5 heff hnL hok hφ => ?_)
  have hw := hW.1
  obtain ⟨p0, p1, hps, k0, k1⟩ := zp_ps2 hok
  obtain ⟨a, rfl, hp⟩ := zp_this k0
  have hrm : zk_Kr (zk_ev (zp_E zK_se)) = zk_Kr zK_se := rfl
  rw [hps] at hφ ⊢
  have hφ : ∃ (first nc pd : Nat) (fr : Int), zp_n u.2.1 a 23 = nc ∧ zp_n u.2.1 a 29 = pd ∧ zi_wk first nc pd fr (zv (zp_n u.2.1) a 27) (zv (zp_n u.2.1) a 28) ∧ fr ≤ 400 ∧ 1 ≤ p1 := hφ
  obtain ⟨first, nc0, pd0, fr, hnc0, hpd0, hwk, hfr4, hl1⟩ := hφ
  have hi1 := zp_int k1
  show zp_J p l e R s m args below meth c Q w u [] 0 [(0, 2, (a : Int)), (1, 0, p1)] [] u.1 (zp_n u.2.1)
  refine zp_kn (k := 24) (a := a) hw (show zp_fd 92 24 = some (12, 2, 68, 0, 0) from rfl) rfl hp (fun hk24 => ?_)
  obtain ⟨b24, hb24, hq24⟩ := zp_this hk24
  refine zp_kn (k := 25) (a := a) hw (show zp_fd 92 25 = some (12, 2, 69, 0, 0) from rfl) rfl hp (fun hk25 => ?_)
  obtain ⟨b25, hb25, hq25⟩ := zp_this hk25
  refine zp_kn (k := 27) (a := a) hw (show zp_fd 92 27 = some (12, 2, 70, 0, 0) from rfl) rfl hp (fun hk27 => ?_)
  obtain ⟨b27, hb27, hq27⟩ := zp_this hk27
  refine zp_kn (k := 28) (a := a) hw (show zp_fd 92 28 = some (12, 2, 71, 0, 0) from rfl) rfl hp (fun hk28 => ?_)
  obtain ⟨b28, hb28, hq28⟩ := zp_this hk28
  have loop : ∀ (n nc pd : Nat) (G : Nat → Nat → Int), pd < n → G a 23 = (nc : Int) → G a 29 = (pd : Int) → G a 24 = (b24 : Int) → G a 25 = (b25 : Int) → G a 27 = (b27 : Int) → G a 28 = (b28 : Int) → zi_wk first nc pd fr (zv (zp_n u.2.1) a 27) (zv (zp_n u.2.1) a 28) → zs_set p1 a (zp_n u.2.1) G → zp_J p l e R s m args below meth c Q w u [] 0 [(0, 2, (a : Int)), (1, 0, p1)] [] u.1 G := by
    intro n
    induction n with
    | zero => intro nc pd G h; exact absurd h (Nat.not_lt_zero _)
    | succ n ih =>
      intro nc pd G hn g23 g29 g24 g25 g27 g28 hwk hset
      have s27 : ∀ i, zv G a 27 i = zv (zp_n u.2.1) a 27 i := by
        obtain ⟨_, _, _, _, _, _, _, _, _, _, _, z, _⟩ := hset
        exact z
      have s28 : ∀ i, zv G a 28 i = zv (zp_n u.2.1) a 28 i := by
        obtain ⟨_, _, _, _, _, _, _, _, _, _, _, _, z, _⟩ := hset
        exact z
      have hw2 := hwk.2.1
      have hw3 := hwk.2.2.1
      cases pd with
      | zero =>
        have g29 : G a 29 = 0 := g29
        refine zp_load (pc := 0) hx hb (zd_X12_settle (0, .aload_n 0, 1, 0, []) (List.mem_of_getElem? (i := 0) rfl)) rfl (j := 0) rfl ?_
        refine zp_getf (n := 0) (pc := 1) hx hb hE hw (zd_X12_settle (1, .getfield 282, 3, 0, []) (List.mem_of_getElem? (i := 1) rfl)) (j := 47) rfl rfl rfl hp g29 ?_
        refine zp_if (pc := 4) (tgt := 101) hx hb (zd_X12_settle (4, .ifCond .le 97, 3, 0, []) (List.mem_of_getElem? (i := 2) rfl)) rfl (fun (hc0 : 0 ≤ 0) => ?_) (fun (hc0 : ¬ (0 ≤ 0)) => ?_)
        · refine zp_vret (pc := 101) hx hb hE hQ hU5 rfl (by decide) (zd_X12_settle (101, .return_, 1, 0, []) (List.mem_of_getElem? (i := 53) rfl)) (j := 0) rfl ?_
          rw [hps]
          refine ⟨rfl, hset, fun pd' h => Or.inl ?_⟩
          have h : G a 29 = (pd' : Int) := h
          omega
        · exact absurd (Int.le_refl 0) hc0
      | succ k =>
        have g29n := g29
        have g29 : G a 29 = (k : Int) + 1 := g29
        have hk := hwk.2.2.2 k (by omega)
        have e27 : G b27 (2000 + k) = zv (zp_n u.2.1) a 27 k := by rw [← zv_eq g27, s27]
        have e28 : G b28 (2000 + k) = zv (zp_n u.2.1) a 28 k := by rw [← zv_eq g28, s28]
        have e27' : zv G a 27 k = G b27 (2000 + k) := zv_eq g27 k
        rw [← e27, ← e28] at hk
        obtain ⟨hk1, hk2, hk3⟩ := hk
        refine zp_load (pc := 0) hx hb (zd_X12_settle (0, .aload_n 0, 1, 0, []) (List.mem_of_getElem? (i := 0) rfl)) rfl (j := 0) rfl ?_
        refine zp_getf (n := ((k : Int) + 1)) (pc := 1) hx hb hE hw (zd_X12_settle (1, .getfield 282, 3, 0, []) (List.mem_of_getElem? (i := 1) rfl)) (j := 47) rfl rfl rfl hp g29 ?_
        refine zp_if (pc := 4) (tgt := 101) hx hb (zd_X12_settle (4, .ifCond .le 97, 3, 0, []) (List.mem_of_getElem? (i := 2) rfl)) rfl (fun (hc0 : ((k : Int) + 1) ≤ 0) => ?_) (fun (hc0 : ¬ (((k : Int) + 1) ≤ 0)) => ?_)
        · exact absurd hc0 (by omega)
        · refine zp_load (pc := 7) hx hb (zd_X12_settle (7, .aload_n 0, 1, 0, []) (List.mem_of_getElem? (i := 3) rfl)) rfl (j := 0) rfl ?_
          refine zp_getf (n := (b27 : Int)) (pc := 8) hx hb hE hw (zd_X12_settle (8, .getfield 51, 3, 0, []) (List.mem_of_getElem? (i := 4) rfl)) (j := 45) rfl rfl rfl hp g27 ?_
          refine zp_load (pc := 11) hx hb (zd_X12_settle (11, .aload_n 0, 1, 0, []) (List.mem_of_getElem? (i := 5) rfl)) rfl (j := 0) rfl ?_
          refine zp_getf (n := ((k : Int) + 1)) (pc := 12) hx hb hE hw (zd_X12_settle (12, .getfield 282, 3, 0, []) (List.mem_of_getElem? (i := 6) rfl)) (j := 47) rfl rfl rfl hp g29 ?_
          refine zp_const (pc := 15) hx hb (zd_X12_settle (15, .iconst 1, 1, 0, []) (List.mem_of_getElem? (i := 7) rfl)) rfl rfl ?_
          refine zp_sub (n := (k : Int)) (pc := 16) hx hb (zd_X12_settle (16, .isub, 1, 0, []) (List.mem_of_getElem? (i := 8) rfl)) (by omega) (zp_r0 (by omega) (by omega)) ?_
          refine zp_iald (j := k) (v := (G b27 (2000 + k))) (pc := 17) hx hb hw (zd_X12_settle (17, .iaload, 1, 0, []) (List.mem_of_getElem? (i := 9) rfl)) (show zp_ia 1 70 = some (400, 0, 0, (-2147483648), 2147483647) from rfl) hq27 (by omega) (by omega) rfl (fun hk21 => ?_)
          have hk21b := zp_int hk21
          refine zp_call (pc := 18) (how := 1) (idx := 285) (mi := 230) (S := []) hx hb hE hw heff hrm (zX_bi hW) rfl (j := 32) rfl rfl (by decide +kernel) (zd_X12_settle (18, .invokestatic 285, 3, 0, []) (List.mem_of_getElem? (i := 10) rfl)) [(G b27 (2000 + k))] rfl ⟨zp_o0 (by omega) (by omega) (by omega) (by omega), trivial⟩ (Nat.le_of_ble_eq_true rfl) trivial (fun al hal rnb Pb Gb hextb hfrb hokb hcsb hpsib => ?_)
          obtain rfl := List.mem_singleton.mp hal
          have hrb := zp_int (hokb _ rfl).1
          obtain ⟨hPeb, hGeb, htb⟩ := hpsib
          rw [hPeb, hGeb]
          have htb : rnb = zbinds (G b27 (2000 + k)) := htb
          refine zp_load (pc := 21) hx hb (zd_X12_settle (21, .iload_n 1, 1, 0, []) (List.mem_of_getElem? (i := 11) rfl)) rfl (j := 1) rfl ?_
          refine zp_icmp (pc := 22) (tgt := 101) hx hb (zd_X12_settle (22, .if_icmp .lt 79, 3, 0, []) (List.mem_of_getElem? (i := 12) rfl)) rfl (fun (hc22 : rnb < p1) => ?_) (fun (hc22 : ¬ (rnb < p1)) => ?_)
          · refine zp_vret (pc := 101) hx hb hE hQ hU5 rfl (by decide) (zd_X12_settle (101, .return_, 1, 0, []) (List.mem_of_getElem? (i := 53) rfl)) (j := 0) rfl ?_
            rw [hps]
            refine ⟨rfl, hset, fun pd' h => ?_⟩
            have h : G a 29 = (pd' : Int) := h
            obtain rfl : pd' = k + 1 := by omega
            refine Or.inr ?_
            show zbinds (zv (zp_n u.2.1) a 27 (k + 1 - 1)) < p1
            rw [Nat.add_sub_cancel, ← e27, ← htb]
            omega
          · refine zp_load (pc := 25) hx hb (zd_X12_settle (25, .aload_n 0, 1, 0, []) (List.mem_of_getElem? (i := 13) rfl)) rfl (j := 0) rfl ?_
            refine zp_dup (pc := 26) hx hb (zd_X12_settle (26, .dup, 1, 0, []) (List.mem_of_getElem? (i := 14) rfl)) (show (2 : Nat) ≠ 1 by decide) ?_
            refine zp_getf (n := ((k : Int) + 1)) (pc := 27) hx hb hE hw (zd_X12_settle (27, .getfield 282, 3, 0, []) (List.mem_of_getElem? (i := 15) rfl)) (j := 47) rfl rfl rfl hp g29 ?_
            refine zp_const (pc := 30) hx hb (zd_X12_settle (30, .iconst 1, 1, 0, []) (List.mem_of_getElem? (i := 16) rfl)) rfl rfl ?_
            refine zp_sub (n := (k : Int)) (pc := 31) hx hb (zd_X12_settle (31, .isub, 1, 0, []) (List.mem_of_getElem? (i := 17) rfl)) (by omega) (zp_r0 (by omega) (by omega)) ?_
            refine zp_putf (pc := 32) hx hb hE hw heff (zd_X12_settle (32, .putfield 282, 3, 0, []) (List.mem_of_getElem? (i := 18) rfl)) (j := 47) rfl rfl rfl hp (zp_o0 (by omega) (by omega) (by omega) (by omega)) ?_
            refine zp_load (pc := 35) hx hb (zd_X12_settle (35, .aload_n 0, 1, 0, []) (List.mem_of_getElem? (i := 19) rfl)) rfl (j := 0) rfl ?_
            refine zp_getf (n := (b27 : Int)) (pc := 36) hx hb hE hw (zd_X12_settle (36, .getfield 51, 3, 0, []) (List.mem_of_getElem? (i := 20) rfl)) (j := 45) rfl rfl rfl hp ((zp_set_ne (Or.inr (by decide))).trans (g27)) ?_
            refine zp_load (pc := 39) hx hb (zd_X12_settle (39, .aload_n 0, 1, 0, []) (List.mem_of_getElem? (i := 21) rfl)) rfl (j := 0) rfl ?_
            refine zp_getf (n := (k : Int)) (pc := 40) hx hb hE hw (zd_X12_settle (40, .getfield 282, 3, 0, []) (List.mem_of_getElem? (i := 22) rfl)) (j := 47) rfl rfl rfl hp zp_set_self ?_
            refine zp_iald (j := k) (v := (G b27 (2000 + k))) (pc := 43) hx hb hw (zd_X12_settle (43, .iaload, 1, 0, []) (List.mem_of_getElem? (i := 23) rfl)) (show zp_ia 1 70 = some (400, 0, 0, (-2147483648), 2147483647) from rfl) hq27 (by omega) (by omega) ((zp_set_ne (Or.inl (zp_pne hq27 hp (by decide))))) (fun hk23 => ?_)
            have hk23b := zp_int hk23
            refine zp_const (pc := 44) hx hb (zd_X12_settle (44, .bipush 29, 2, 0, []) (List.mem_of_getElem? (i := 24) rfl)) rfl rfl ?_
            refine zp_icmp (pc := 46) (tgt := 63) hx hb (zd_X12_settle (46, .if_icmp .eq 17, 3, 0, []) (List.mem_of_getElem? (i := 25) rfl)) rfl (fun (hc24 : (G b27 (2000 + k)) = 29) => ?_) (fun (hc24 : ¬ ((G b27 (2000 + k)) = 29)) => ?_)
            · have hand : G b27 (2000 + k) = 29 ∨ G b27 (2000 + k) = 30 := by omega
              obtain ⟨hq1, hq2⟩ := hk3 hand
              obtain ⟨q0, hq0⟩ := zp_nat (n := G b28 (2000 + k)) (by omega)
              rw [hq0] at hq1 hq2
              refine zp_load (pc := 63) hx hb (zd_X12_settle (63, .aload_n 0, 1, 0, []) (List.mem_of_getElem? (i := 33) rfl)) rfl (j := 0) rfl ?_
              refine zp_getf (n := (b25 : Int)) (pc := 64) hx hb hE hw (zd_X12_settle (64, .getfield 48, 3, 0, []) (List.mem_of_getElem? (i := 34) rfl)) (j := 43) rfl rfl rfl hp ((zp_set_ne (Or.inr (by decide))).trans (g25)) ?_
              refine zp_load (pc := 67) hx hb (zd_X12_settle (67, .aload_n 0, 1, 0, []) (List.mem_of_getElem? (i := 35) rfl)) rfl (j := 0) rfl ?_
              refine zp_getf (n := (b28 : Int)) (pc := 68) hx hb hE hw (zd_X12_settle (68, .getfield 54, 3, 0, []) (List.mem_of_getElem? (i := 36) rfl)) (j := 46) rfl rfl rfl hp ((zp_set_ne (Or.inr (by decide))).trans (g28)) ?_
              refine zp_load (pc := 71) hx hb (zd_X12_settle (71, .aload_n 0, 1, 0, []) (List.mem_of_getElem? (i := 37) rfl)) rfl (j := 0) rfl ?_
              refine zp_getf (n := (k : Int)) (pc := 72) hx hb hE hw (zd_X12_settle (72, .getfield 282, 3, 0, []) (List.mem_of_getElem? (i := 38) rfl)) (j := 47) rfl rfl rfl hp zp_set_self ?_
              refine zp_iald (j := k) (v := (q0 : Int)) (pc := 75) hx hb hw (zd_X12_settle (75, .iaload, 1, 0, []) (List.mem_of_getElem? (i := 39) rfl)) (show zp_ia 1 71 = some (400, 0, 0, (-2147483648), 2147483647) from rfl) hq28 (by omega) (by omega) ((zp_set_ne (Or.inl (zp_pne hq28 hp (by decide)))).trans (hq0)) (fun hk25 => ?_)
              have hk25b := zp_int hk25
              refine zp_load (pc := 76) hx hb (zd_X12_settle (76, .aload_n 0, 1, 0, []) (List.mem_of_getElem? (i := 40) rfl)) rfl (j := 0) rfl ?_
              refine zp_getf (n := (nc : Int)) (pc := 77) hx hb hE hw (zd_X12_settle (77, .getfield 279, 3, 0, []) (List.mem_of_getElem? (i := 41) rfl)) (j := 41) rfl rfl rfl hp ((zp_set_ne (Or.inr (by decide))).trans (g23)) ?_
              refine zp_iast (j := q0) (pc := 80) hx hb hw heff (zd_X12_settle (80, .iastore, 1, 0, []) (List.mem_of_getElem? (i := 42) rfl)) (show zp_ia 1 69 = some (400, 0, 0, (-2147483648), 2147483647) from rfl) hq25 (by omega) (by omega) (zp_o0 (by omega) (by omega) (by omega) (by omega)) rfl ?_
              refine zp_goto (tgt := 0) (pc := 81) hx hb (zd_X12_settle (81, .goto (-81), 3, 0, []) (List.mem_of_getElem? (i := 43) rfl)) rfl ?_
              refine ih nc k (zp_set (zp_set G a 29 (k : Int)) b25 (2000 + q0) (nc : Int)) (by omega) ((zp_set_ne (Or.inl (zp_pne hp hq25 (by decide)))).trans ((zp_set_ne (Or.inr (by decide))).trans (g23))) ((zp_set_ne (Or.inl (zp_pne hp hq25 (by decide)))).trans (zp_set_self)) ((zp_set_ne (Or.inl (zp_pne hp hq25 (by decide)))).trans ((zp_set_ne (Or.inr (by decide))).trans (g24))) ((zp_set_ne (Or.inl (zp_pne hp hq25 (by decide)))).trans ((zp_set_ne (Or.inr (by decide))).trans (g25))) ((zp_set_ne (Or.inl (zp_pne hp hq25 (by decide)))).trans ((zp_set_ne (Or.inr (by decide))).trans (g27))) ((zp_set_ne (Or.inl (zp_pne hp hq25 (by decide)))).trans ((zp_set_ne (Or.inr (by decide))).trans (g28))) ?_ ?_
              · exact zi_wk_and hwk (by rw [← e27]; exact hand)
              · refine zs_set_step hset g23 g29n ((zp_set_ne (Or.inl (zp_pne hp hq25 (by decide)))).trans ((zp_set_ne (Or.inr (by decide))).trans (g23))) ((zp_set_ne (Or.inl (zp_pne hp hq25 (by decide)))).trans (zp_set_self)) (fun i => ?_) (fun i => ?_) (by rw [e27', ← htb]; omega) (Nat.le_refl _) (zs_st_and (q0 := q0) (by rw [e27']; exact hand) (by rw [zv_eq g28]; exact hq0) (fun q => ?_) (fun q => ?_))
                · rw [zv_eq ((zp_set_ne (Or.inl (zp_pne hp hq25 (by decide)))).trans ((zp_set_ne (Or.inr (by decide))).trans (g27))), zv_eq g27]
                  rw [zp_set_ne (Or.inl (zp_pne hq27 hq25 (by decide))), zp_set_ne (Or.inl (zp_pne hq27 hp (by decide)))]
                · rw [zv_eq ((zp_set_ne (Or.inl (zp_pne hp hq25 (by decide)))).trans ((zp_set_ne (Or.inr (by decide))).trans (g28))), zv_eq g28]
                  rw [zp_set_ne (Or.inl (zp_pne hq28 hq25 (by decide))), zp_set_ne (Or.inl (zp_pne hq28 hp (by decide)))]
                · rw [zv_eq ((zp_set_ne (Or.inl (zp_pne hp hq25 (by decide)))).trans ((zp_set_ne (Or.inr (by decide))).trans (g24))), zv_eq g24]
                  rw [zp_set_ne (Or.inl (zp_pne hq24 hq25 (by decide))), zp_set_ne (Or.inl (zp_pne hq24 hp (by decide)))]
                · rw [zv_eq ((zp_set_ne (Or.inl (zp_pne hp hq25 (by decide)))).trans ((zp_set_ne (Or.inr (by decide))).trans (g25))), zv_eq g25, zp_set_el]
                  rw [zp_set_ne (Or.inl (zp_pne hq25 hp (by decide)))]
            · refine zp_load (pc := 49) hx hb (zd_X12_settle (49, .aload_n 0, 1, 0, []) (List.mem_of_getElem? (i := 26) rfl)) rfl (j := 0) rfl ?_
              refine zp_getf (n := (b27 : Int)) (pc := 50) hx hb hE hw (zd_X12_settle (50, .getfield 51, 3, 0, []) (List.mem_of_getElem? (i := 27) rfl)) (j := 45) rfl rfl rfl hp ((zp_set_ne (Or.inr (by decide))).trans (g27)) ?_
              refine zp_load (pc := 53) hx hb (zd_X12_settle (53, .aload_n 0, 1, 0, []) (List.mem_of_getElem? (i := 28) rfl)) rfl (j := 0) rfl ?_
              refine zp_getf (n := (k : Int)) (pc := 54) hx hb hE hw (zd_X12_settle (54, .getfield 282, 3, 0, []) (List.mem_of_getElem? (i := 29) rfl)) (j := 47) rfl rfl rfl hp zp_set_self ?_
              refine zp_iald (j := k) (v := (G b27 (2000 + k))) (pc := 57) hx hb hw (zd_X12_settle (57, .iaload, 1, 0, []) (List.mem_of_getElem? (i := 30) rfl)) (show zp_ia 1 70 = some (400, 0, 0, (-2147483648), 2147483647) from rfl) hq27 (by omega) (by omega) ((zp_set_ne (Or.inl (zp_pne hq27 hp (by decide))))) (fun hk26 => ?_)
              have hk26b := zp_int hk26
              refine zp_const (pc := 58) hx hb (zd_X12_settle (58, .bipush 30, 2, 0, []) (List.mem_of_getElem? (i := 31) rfl)) rfl rfl ?_
              refine zp_icmp (pc := 60) (tgt := 84) hx hb (zd_X12_settle (60, .if_icmp .ne 24, 3, 0, []) (List.mem_of_getElem? (i := 32) rfl)) rfl (fun (hc27 : ¬ (G b27 (2000 + k)) = 30) => ?_) (fun (hc27 : ¬ (¬ (G b27 (2000 + k)) = 30)) => ?_)
              · refine zp_load (pc := 84) hx hb (zd_X12_settle (84, .aload_n 0, 1, 0, []) (List.mem_of_getElem? (i := 44) rfl)) rfl (j := 0) rfl ?_
                refine zp_load (pc := 85) hx hb (zd_X12_settle (85, .aload_n 0, 1, 0, []) (List.mem_of_getElem? (i := 45) rfl)) rfl (j := 0) rfl ?_
                refine zp_getf (n := (b27 : Int)) (pc := 86) hx hb hE hw (zd_X12_settle (86, .getfield 51, 3, 0, []) (List.mem_of_getElem? (i := 46) rfl)) (j := 45) rfl rfl rfl hp ((zp_set_ne (Or.inr (by decide))).trans (g27)) ?_
                refine zp_load (pc := 89) hx hb (zd_X12_settle (89, .aload_n 0, 1, 0, []) (List.mem_of_getElem? (i := 47) rfl)) rfl (j := 0) rfl ?_
                refine zp_getf (n := (k : Int)) (pc := 90) hx hb hE hw (zd_X12_settle (90, .getfield 282, 3, 0, []) (List.mem_of_getElem? (i := 48) rfl)) (j := 47) rfl rfl rfl hp zp_set_self ?_
                refine zp_iald (j := k) (v := (G b27 (2000 + k))) (pc := 93) hx hb hw (zd_X12_settle (93, .iaload, 1, 0, []) (List.mem_of_getElem? (i := 49) rfl)) (show zp_ia 1 70 = some (400, 0, 0, (-2147483648), 2147483647) from rfl) hq27 (by omega) (by omega) ((zp_set_ne (Or.inl (zp_pne hq27 hp (by decide))))) (fun hk28 => ?_)
                have hk28b := zp_int hk28
                refine zp_const (pc := 94) hx hb (zd_X12_settle (94, .iconst 0, 1, 0, []) (List.mem_of_getElem? (i := 50) rfl)) rfl rfl ?_
                have hz31 : G b27 (2000 + k) < 31 := by
                  by_cases hz : 31 ≤ G b27 (2000 + k)
                  · have : zbinds (G b27 (2000 + k)) = 0 := by unfold zbinds; rw [if_pos hz]
                    omega
                  · omega
                have hE1 : zi_E (zv (zp_n u.2.1) a 27) (k + 1) = zi_E (zv (zp_n u.2.1) a 27) k + 1 := by
                  show zi_E (zv (zp_n u.2.1) a 27) k + _ = _
                  rw [if_neg (by rw [← e27]; omega)]
                refine zp_call (pc := 95) (how := 0) (idx := 288) (mi := 227) (S := []) hx hb hE hw heff hrm (zX_em hW) rfl (j := 29) rfl rfl (by decide +kernel) (zd_X12_settle (95, .invokevirtual 288, 3, 0, []) (List.mem_of_getElem? (i := 51) rfl)) [(a : Int), (G b27 (2000 + k)), 0] rfl ⟨zp_o2 hp, zp_o0 (by omega) (by omega) (by omega) (by omega), zp_o0 (by decide) (by decide) (by decide) (by decide), trivial⟩ (Nat.le_of_ble_eq_true rfl) (show (zp_set G a 29 (k : Int)) a 23 < 400 by rw [((zp_set_ne (Or.inr (by decide))).trans (g23))]; omega) (fun al hal rnm Pm Gm hextm hfrm hokm hcsm hpsim => ?_)
                obtain rfl := List.mem_singleton.mp hal
                obtain ⟨rfl, hm23, hm24, hm25⟩ := hpsim
                have hm23 : Gm a 23 = ((nc + 1 : Nat) : Int) := by
                  have h : Gm a 23 = (zp_set G a 29 (k : Int)) a 23 + 1 := hm23
                  rw [((zp_set_ne (Or.inr (by decide))).trans (g23))] at h
                  omega
                have hm24 : ∀ j : Nat, zv Gm a 24 j = if j = ((zp_set G a 29 (k : Int)) a 23).toNat then (G b27 (2000 + k)) else zv (zp_set G a 29 (k : Int)) a 24 j := hm24
                have hm25 : ∀ j : Nat, zv Gm a 25 j = if j = ((zp_set G a 29 (k : Int)) a 23).toNat then 0 else zv (zp_set G a 29 (k : Int)) a 25 j := hm25
                rw [((zp_set_ne (Or.inr (by decide))).trans (g23))] at hm24 hm25
                have m24 : Gm a 24 = (b24 : Int) := (zp_nf hfrm hp rfl).trans ((zp_set_ne (Or.inr (by decide))).trans (g24))
                have m25 : Gm a 25 = (b25 : Int) := (zp_nf hfrm hp rfl).trans ((zp_set_ne (Or.inr (by decide))).trans (g25))
                have m27 : Gm a 27 = (b27 : Int) := (zp_nf hfrm hp rfl).trans ((zp_set_ne (Or.inr (by decide))).trans (g27))
                have m28 : Gm a 28 = (b28 : Int) := (zp_nf hfrm hp rfl).trans ((zp_set_ne (Or.inr (by decide))).trans (g28))
                have m29 : Gm a 29 = (k : Int) := (zp_nf hfrm hp rfl).trans zp_set_self
                refine zp_goto (tgt := 0) (pc := 98) hx hb (zd_X12_settle (98, .goto (-98), 3, 0, []) (List.mem_of_getElem? (i := 52) rfl)) rfl ?_
                refine ih (nc + 1) k Gm (by omega) hm23 m29 m24 m25 m27 m28 ?_ ?_
                · exact zi_wk_emit hwk (by rw [← e27]; omega)
                · refine zs_set_step hset g23 g29n hm23 m29 (fun i => ?_) (fun i => ?_) (by rw [e27', ← htb]; omega) (Nat.le_succ _) (zs_st_emit (by rw [e27']; omega) (by rw [e27']; exact hz31) (fun q => ?_) (fun q => ?_))
                  · rw [zv_eq m27, zv_eq g27, zp_nc hfrm hq27 rfl, zp_set_ne (Or.inl (zp_pne hq27 hp (by decide)))]
                  · rw [zv_eq m28, zv_eq g28, zp_nc hfrm hq28 rfl, zp_set_ne (Or.inl (zp_pne hq28 hp (by decide)))]
                  · rw [hm24 q, Int.toNat_natCast]
                    rw [e27']
                    rw [zv_eq (show (zp_set G a 29 (k : Int)) a 24 = (b24 : Int) from (zp_set_ne (Or.inr (by decide))).trans g24), zv_eq g24, zp_set_ne (Or.inl (zp_pne hq24 hp (by decide)))]
                  · rw [hm25 q, Int.toNat_natCast]
                    rw [zv_eq (show (zp_set G a 29 (k : Int)) a 25 = (b25 : Int) from (zp_set_ne (Or.inr (by decide))).trans g25), zv_eq g25, zp_set_ne (Or.inl (zp_pne hq25 hp (by decide)))]
              · have hand : G b27 (2000 + k) = 29 ∨ G b27 (2000 + k) = 30 := by omega
                obtain ⟨hq1, hq2⟩ := hk3 hand
                obtain ⟨q0, hq0⟩ := zp_nat (n := G b28 (2000 + k)) (by omega)
                rw [hq0] at hq1 hq2
                refine zp_load (pc := 63) hx hb (zd_X12_settle (63, .aload_n 0, 1, 0, []) (List.mem_of_getElem? (i := 33) rfl)) rfl (j := 0) rfl ?_
                refine zp_getf (n := (b25 : Int)) (pc := 64) hx hb hE hw (zd_X12_settle (64, .getfield 48, 3, 0, []) (List.mem_of_getElem? (i := 34) rfl)) (j := 43) rfl rfl rfl hp ((zp_set_ne (Or.inr (by decide))).trans (g25)) ?_
                refine zp_load (pc := 67) hx hb (zd_X12_settle (67, .aload_n 0, 1, 0, []) (List.mem_of_getElem? (i := 35) rfl)) rfl (j := 0) rfl ?_
                refine zp_getf (n := (b28 : Int)) (pc := 68) hx hb hE hw (zd_X12_settle (68, .getfield 54, 3, 0, []) (List.mem_of_getElem? (i := 36) rfl)) (j := 46) rfl rfl rfl hp ((zp_set_ne (Or.inr (by decide))).trans (g28)) ?_
                refine zp_load (pc := 71) hx hb (zd_X12_settle (71, .aload_n 0, 1, 0, []) (List.mem_of_getElem? (i := 37) rfl)) rfl (j := 0) rfl ?_
                refine zp_getf (n := (k : Int)) (pc := 72) hx hb hE hw (zd_X12_settle (72, .getfield 282, 3, 0, []) (List.mem_of_getElem? (i := 38) rfl)) (j := 47) rfl rfl rfl hp zp_set_self ?_
                refine zp_iald (j := k) (v := (q0 : Int)) (pc := 75) hx hb hw (zd_X12_settle (75, .iaload, 1, 0, []) (List.mem_of_getElem? (i := 39) rfl)) (show zp_ia 1 71 = some (400, 0, 0, (-2147483648), 2147483647) from rfl) hq28 (by omega) (by omega) ((zp_set_ne (Or.inl (zp_pne hq28 hp (by decide)))).trans (hq0)) (fun hk29 => ?_)
                have hk29b := zp_int hk29
                refine zp_load (pc := 76) hx hb (zd_X12_settle (76, .aload_n 0, 1, 0, []) (List.mem_of_getElem? (i := 40) rfl)) rfl (j := 0) rfl ?_
                refine zp_getf (n := (nc : Int)) (pc := 77) hx hb hE hw (zd_X12_settle (77, .getfield 279, 3, 0, []) (List.mem_of_getElem? (i := 41) rfl)) (j := 41) rfl rfl rfl hp ((zp_set_ne (Or.inr (by decide))).trans (g23)) ?_
                refine zp_iast (j := q0) (pc := 80) hx hb hw heff (zd_X12_settle (80, .iastore, 1, 0, []) (List.mem_of_getElem? (i := 42) rfl)) (show zp_ia 1 69 = some (400, 0, 0, (-2147483648), 2147483647) from rfl) hq25 (by omega) (by omega) (zp_o0 (by omega) (by omega) (by omega) (by omega)) rfl ?_
                refine zp_goto (tgt := 0) (pc := 81) hx hb (zd_X12_settle (81, .goto (-81), 3, 0, []) (List.mem_of_getElem? (i := 43) rfl)) rfl ?_
                refine ih nc k (zp_set (zp_set G a 29 (k : Int)) b25 (2000 + q0) (nc : Int)) (by omega) ((zp_set_ne (Or.inl (zp_pne hp hq25 (by decide)))).trans ((zp_set_ne (Or.inr (by decide))).trans (g23))) ((zp_set_ne (Or.inl (zp_pne hp hq25 (by decide)))).trans (zp_set_self)) ((zp_set_ne (Or.inl (zp_pne hp hq25 (by decide)))).trans ((zp_set_ne (Or.inr (by decide))).trans (g24))) ((zp_set_ne (Or.inl (zp_pne hp hq25 (by decide)))).trans ((zp_set_ne (Or.inr (by decide))).trans (g25))) ((zp_set_ne (Or.inl (zp_pne hp hq25 (by decide)))).trans ((zp_set_ne (Or.inr (by decide))).trans (g27))) ((zp_set_ne (Or.inl (zp_pne hp hq25 (by decide)))).trans ((zp_set_ne (Or.inr (by decide))).trans (g28))) ?_ ?_
                · exact zi_wk_and hwk (by rw [← e27]; exact hand)
                · refine zs_set_step hset g23 g29n ((zp_set_ne (Or.inl (zp_pne hp hq25 (by decide)))).trans ((zp_set_ne (Or.inr (by decide))).trans (g23))) ((zp_set_ne (Or.inl (zp_pne hp hq25 (by decide)))).trans (zp_set_self)) (fun i => ?_) (fun i => ?_) (by rw [e27', ← htb]; omega) (Nat.le_refl _) (zs_st_and (q0 := q0) (by rw [e27']; exact hand) (by rw [zv_eq g28]; exact hq0) (fun q => ?_) (fun q => ?_))
                  · rw [zv_eq ((zp_set_ne (Or.inl (zp_pne hp hq25 (by decide)))).trans ((zp_set_ne (Or.inr (by decide))).trans (g27))), zv_eq g27]
                    rw [zp_set_ne (Or.inl (zp_pne hq27 hq25 (by decide))), zp_set_ne (Or.inl (zp_pne hq27 hp (by decide)))]
                  · rw [zv_eq ((zp_set_ne (Or.inl (zp_pne hp hq25 (by decide)))).trans ((zp_set_ne (Or.inr (by decide))).trans (g28))), zv_eq g28]
                    rw [zp_set_ne (Or.inl (zp_pne hq28 hq25 (by decide))), zp_set_ne (Or.inl (zp_pne hq28 hp (by decide)))]
                  · rw [zv_eq ((zp_set_ne (Or.inl (zp_pne hp hq25 (by decide)))).trans ((zp_set_ne (Or.inr (by decide))).trans (g24))), zv_eq g24]
                    rw [zp_set_ne (Or.inl (zp_pne hq24 hq25 (by decide))), zp_set_ne (Or.inl (zp_pne hq24 hp (by decide)))]
                  · rw [zv_eq ((zp_set_ne (Or.inl (zp_pne hp hq25 (by decide)))).trans ((zp_set_ne (Or.inr (by decide))).trans (g25))), zv_eq g25, zp_set_el]
                    rw [zp_set_ne (Or.inl (zp_pne hq25 hp (by decide)))]
  refine loop (pd0 + 1) nc0 pd0 _ (by omega) hnc0 hpd0 hb24 hb25 hb27 hb28 hwk (zs_set_rf hnc0 hpd0)
