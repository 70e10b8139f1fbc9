/-! part b1: the tape, its tokens (class) -/
noncomputable def zy_kd (c : Int) : Int := if zy_sm c = true then 1 else if zy_dg c = true then 2 else 3
theorem zy_sm_i {c : Int} : zy_sm c = true ↔ 97 ≤ c ∧ c ≤ 122 := by
  unfold zy_sm
  rw [Bool.and_eq_true, decide_eq_true_eq, decide_eq_true_eq]
theorem zy_dg_i {c : Int} : zy_dg c = true ↔ 48 ≤ c ∧ c ≤ 57 := by
  unfold zy_dg
  rw [Bool.and_eq_true, decide_eq_true_eq, decide_eq_true_eq]
theorem zy_bl_i {c : Int} : zy_bl c = true ↔ c = 32 := by
  unfold zy_bl
  rw [decide_eq_true_eq]
/-- a token is looked at: the class's tape -/
noncomputable def zy_tc (B : Nat → Int) (len : Nat) (G : Nat → Nat → Int) (a p : Nat) : Prop := p ≤ len ∧ G a 2 = (zy_so B len p : Int) ∧ G a 3 = (zy_fr B len p : Int) ∧ G a 4 = (zy_to B len p : Int) ∧ G a 5 = if zy_so B len p = 3 then B (zy_fr B len p) else -1
theorem zy_so_in {B : Nat → Int} {len p : Nat} (h : zy_fr B len p < len) : (zy_so B len p : Int) = zy_kd (B (zy_fr B len p)) := by
  unfold zy_so zy_kd
  rw [if_pos h]
  repeat' split
  all_goals rfl
theorem zy_so_out {B : Nat → Int} {len p : Nat} (h : ¬ zy_fr B len p < len) : zy_so B len p = 0 := by
  unfold zy_so
  rw [if_neg h]
theorem zy_to_0 {B : Nat → Int} {len p : Nat} (h : zy_so B len p = 0) : zy_to B len p = zy_fr B len p := by
  unfold zy_to
  rw [if_neg (by omega), if_neg (by omega), if_neg (by omega)]
theorem zy_to_1 {B : Nat → Int} {len p : Nat} (h : zy_so B len p = 1) : zy_to B len p = zy_r zy_sm B len (zy_fr B len p) := by
  unfold zy_to
  rw [if_pos h]
theorem zy_to_2 {B : Nat → Int} {len p : Nat} (h : zy_so B len p = 2) : zy_to B len p = zy_r zy_dg B len (zy_fr B len p) := by
  unfold zy_to
  rw [if_neg (by omega), if_pos h]
theorem zy_to_3 {B : Nat → Int} {len p : Nat} (h : zy_so B len p = 3) : zy_to B len p = zy_fr B len p + 1 := by
  unfold zy_to
  rw [if_neg (by omega), if_neg (by omega), if_pos h]
/-- on within a token of kind k -/
noncomputable def zy_kr (k : Int) (B : Nat → Int) (len p : Nat) : Nat := if k = 1 then zy_r zy_sm B len p else zy_r zy_dg B len p
theorem zy_kr_go {k : Int} {B : Nat → Int} {len p : Nat} (hk : k = 1 ∨ k = 2) (h : p < len) (hf : zy_kd (B p) = k) : zy_kr k B len p = zy_kr k B len (p + 1) := by
  unfold zy_kr
  unfold zy_kd at hf
  rcases hk with hk | hk
  · rw [if_pos hk, if_pos hk]
    refine zy_r_go h ?_
    by_cases hs : zy_sm (B p) = true
    · exact hs
    · rw [if_neg hs] at hf
      exfalso
      revert hf
      split
      all_goals omega
  · rw [if_neg (by omega), if_neg (by omega)]
    refine zy_r_go h ?_
    by_cases hs : zy_sm (B p) = true
    · rw [if_pos hs] at hf
      omega
    · rw [if_neg hs] at hf
      by_cases hd : zy_dg (B p) = true
      · exact hd
      · rw [if_neg hd] at hf
        omega
theorem zy_kr_no {k : Int} {B : Nat → Int} {len p : Nat} (hk : k = 1 ∨ k = 2) (h : ¬ (p < len ∧ zy_kd (B p) = k)) : zy_kr k B len p = p := by
  unfold zy_kr
  rcases hk with hk | hk
  · rw [if_pos hk]
    refine zy_r_no (fun z => h ⟨z.1, ?_⟩)
    unfold zy_kd
    rw [if_pos z.2]
    exact hk.symm
  · rw [if_neg (by omega)]
    refine zy_r_no (fun z => h ⟨z.1, ?_⟩)
    unfold zy_kd
    have h1 := zy_dg_i.mp z.2
    rw [if_neg (fun z9 => by have := zy_sm_i.mp z9; omega), if_pos z.2]
    exact hk.symm
noncomputable def zK_kof : zk_K := (zt_mn 44, prog_9_method_7_code, 1, (Option.some Jvm.ClassFile.FieldType.int), 0, 7, [(0, 0, (-2147483648), 2147483647)], [(some (0, 0, 1, 3), [])], [], (0, 0, 0, 0))
noncomputable def zψ_kof : (Nat → Option Nat) → (Nat → Nat → Int) → List Int → (Nat → Option Nat) → (Nat → Nat → Int) → Int → Prop := fun P G ps P' G' rn => P' = P ∧ G' = G ∧ rn = zy_kd (ps.getD 0 0)
theorem zX_kof {l : Launch} {w : zk_W} (hW : zh_W w) : zk_metX l w zt_dv zt_TB zK_kof (zp_A zp_tA) (zp_B zψ_kof) ∧ zk_cok w zt_TB zK_kof := by
  refine zp_methX (cn := "WoundTown$Tape") zp_lkallT hW (pl := 724) rfl (by decide +kernel) (fun p e R s m args below meth c Q u hx hb hE hQ hU5 heff hnL hok hφ => ?_)
  have hw := hW.1
  obtain ⟨p0, hps, k0⟩ := zp_ps1 hok
  have hrm : zk_Kr (zk_ev (zt_types, zp_lkT, zt_dv, [], [], zp_lcT, zK_kof)) = zk_Kr zK_kof := rfl
  rw [hps] at hφ ⊢
  have hi0 := zp_int k0
  show zp_J p l e R s m args below meth c Q w u [] 0 [(0, 0, p0)] [] u.1 (zp_n u.2.1)
  refine zp_load (pc := 0) hx hb (zd_X7_kindOf (0, .iload_n 0, 1, 0, []) (List.mem_of_getElem? (i := 0) rfl)) rfl (j := 0) rfl ?_
  refine zp_const (pc := 1) hx hb (zd_X7_kindOf (1, .bipush 97, 2, 0, []) (List.mem_of_getElem? (i := 1) rfl)) rfl rfl ?_
  refine zp_icmp (pc := 3) (tgt := 14) hx hb (zd_X7_kindOf (3, .if_icmp .lt 11, 3, 0, []) (List.mem_of_getElem? (i := 2) rfl)) rfl (fun (hc21 : p0 < 97) => ?_) (fun (hc21 : ¬ (p0 < 97)) => ?_)
  · refine zp_load (pc := 14) hx hb (zd_X7_kindOf (14, .iload_n 0, 1, 0, []) (List.mem_of_getElem? (i := 8) rfl)) rfl (j := 0) rfl ?_
    refine zp_const (pc := 15) hx hb (zd_X7_kindOf (15, .bipush 48, 2, 0, []) (List.mem_of_getElem? (i := 9) rfl)) rfl rfl ?_
    refine zp_icmp (pc := 17) (tgt := 30) hx hb (zd_X7_kindOf (17, .if_icmp .lt 13, 3, 0, []) (List.mem_of_getElem? (i := 10) rfl)) rfl (fun (hc22 : p0 < 48) => ?_) (fun (hc22 : ¬ (p0 < 48)) => ?_)
    · refine zp_const (pc := 30) hx hb (zd_X7_kindOf (30, .iconst 3, 1, 0, []) (List.mem_of_getElem? (i := 16) rfl)) rfl rfl ?_
      refine zp_iret (pc := 31) (n := 3) hx hb hE hQ hU5 rfl (by decide) (zd_X7_kindOf (31, .ireturn, 1, 0, []) (List.mem_of_getElem? (i := 17) rfl)) (j := 0) rfl (zp_o0 (by omega) (by omega) (by omega) (by omega)) ?_
      rw [hps]
      refine ⟨rfl, rfl, ?_⟩
      show 3 = zy_kd p0
      unfold zy_kd
      have e1 := @zy_sm_i p0
      have e2 := @zy_dg_i p0
      by_cases c1 : zy_sm p0 = true
      · have := e1.mp c1
        first | exact (if_pos c1).symm | (exfalso; omega)
      · have n1 : ¬ (97 ≤ p0 ∧ p0 ≤ 122) := fun z => c1 (e1.mpr z)
        by_cases c2 : zy_dg p0 = true
        · have := e2.mp c2
          first | exact ((if_neg c1).trans (if_pos c2)).symm | (exfalso; omega)
        · have n2 : ¬ (48 ≤ p0 ∧ p0 ≤ 57) := fun z => c2 (e2.mpr z)
          first | exact ((if_neg c1).trans (if_neg c2)).symm | (exfalso; omega)
    · refine zp_load (pc := 20) hx hb (zd_X7_kindOf (20, .iload_n 0, 1, 0, []) (List.mem_of_getElem? (i := 11) rfl)) rfl (j := 0) rfl ?_
      refine zp_const (pc := 21) hx hb (zd_X7_kindOf (21, .bipush 57, 2, 0, []) (List.mem_of_getElem? (i := 12) rfl)) rfl rfl ?_
      refine zp_icmp (pc := 23) (tgt := 30) hx hb (zd_X7_kindOf (23, .if_icmp .gt 7, 3, 0, []) (List.mem_of_getElem? (i := 13) rfl)) rfl (fun (hc23 : 57 < p0) => ?_) (fun (hc23 : ¬ (57 < p0)) => ?_)
      · refine zp_const (pc := 30) hx hb (zd_X7_kindOf (30, .iconst 3, 1, 0, []) (List.mem_of_getElem? (i := 16) rfl)) rfl rfl ?_
        refine zp_iret (pc := 31) (n := 3) hx hb hE hQ hU5 rfl (by decide) (zd_X7_kindOf (31, .ireturn, 1, 0, []) (List.mem_of_getElem? (i := 17) rfl)) (j := 0) rfl (zp_o0 (by omega) (by omega) (by omega) (by omega)) ?_
        rw [hps]
        refine ⟨rfl, rfl, ?_⟩
        show 3 = zy_kd p0
        unfold zy_kd
        have e1 := @zy_sm_i p0
        have e2 := @zy_dg_i p0
        by_cases c1 : zy_sm p0 = true
        · have := e1.mp c1
          first | exact (if_pos c1).symm | (exfalso; omega)
        · have n1 : ¬ (97 ≤ p0 ∧ p0 ≤ 122) := fun z => c1 (e1.mpr z)
          by_cases c2 : zy_dg p0 = true
          · have := e2.mp c2
            first | exact ((if_neg c1).trans (if_pos c2)).symm | (exfalso; omega)
          · have n2 : ¬ (48 ≤ p0 ∧ p0 ≤ 57) := fun z => c2 (e2.mpr z)
            first | exact ((if_neg c1).trans (if_neg c2)).symm | (exfalso; omega)
      · refine zp_const (pc := 26) hx hb (zd_X7_kindOf (26, .iconst 2, 1, 0, []) (List.mem_of_getElem? (i := 14) rfl)) rfl rfl ?_
        refine zp_goto (tgt := 31) (pc := 27) hx hb (zd_X7_kindOf (27, .goto 4, 3, 0, []) (List.mem_of_getElem? (i := 15) rfl)) rfl ?_
        refine zp_iret (pc := 31) (n := 2) hx hb hE hQ hU5 rfl (by decide) (zd_X7_kindOf (31, .ireturn, 1, 0, []) (List.mem_of_getElem? (i := 17) rfl)) (j := 0) rfl (zp_o0 (by omega) (by omega) (by omega) (by omega)) ?_
        rw [hps]
        refine ⟨rfl, rfl, ?_⟩
        show 2 = zy_kd p0
        unfold zy_kd
        have e1 := @zy_sm_i p0
        have e2 := @zy_dg_i p0
        by_cases c1 : zy_sm p0 = true
        · have := e1.mp c1
          first | exact (if_pos c1).symm | (exfalso; omega)
        · have n1 : ¬ (97 ≤ p0 ∧ p0 ≤ 122) := fun z => c1 (e1.mpr z)
          by_cases c2 : zy_dg p0 = true
          · have := e2.mp c2
            first | exact ((if_neg c1).trans (if_pos c2)).symm | (exfalso; omega)
          · have n2 : ¬ (48 ≤ p0 ∧ p0 ≤ 57) := fun z => c2 (e2.mpr z)
            first | exact ((if_neg c1).trans (if_neg c2)).symm | (exfalso; omega)
  · refine zp_load (pc := 6) hx hb (zd_X7_kindOf (6, .iload_n 0, 1, 0, []) (List.mem_of_getElem? (i := 3) rfl)) rfl (j := 0) rfl ?_
    refine zp_const (pc := 7) hx hb (zd_X7_kindOf (7, .bipush 122, 2, 0, []) (List.mem_of_getElem? (i := 4) rfl)) rfl rfl ?_
    refine zp_icmp (pc := 9) (tgt := 14) hx hb (zd_X7_kindOf (9, .if_icmp .gt 5, 3, 0, []) (List.mem_of_getElem? (i := 5) rfl)) rfl (fun (hc24 : 122 < p0) => ?_) (fun (hc24 : ¬ (122 < p0)) => ?_)
    · refine zp_load (pc := 14) hx hb (zd_X7_kindOf (14, .iload_n 0, 1, 0, []) (List.mem_of_getElem? (i := 8) rfl)) rfl (j := 0) rfl ?_
      refine zp_const (pc := 15) hx hb (zd_X7_kindOf (15, .bipush 48, 2, 0, []) (List.mem_of_getElem? (i := 9) rfl)) rfl rfl ?_
      refine zp_icmp (pc := 17) (tgt := 30) hx hb (zd_X7_kindOf (17, .if_icmp .lt 13, 3, 0, []) (List.mem_of_getElem? (i := 10) rfl)) rfl (fun (hc25 : p0 < 48) => ?_) (fun (hc25 : ¬ (p0 < 48)) => ?_)
      · refine zp_const (pc := 30) hx hb (zd_X7_kindOf (30, .iconst 3, 1, 0, []) (List.mem_of_getElem? (i := 16) rfl)) rfl rfl ?_
        refine zp_iret (pc := 31) (n := 3) hx hb hE hQ hU5 rfl (by decide) (zd_X7_kindOf (31, .ireturn, 1, 0, []) (List.mem_of_getElem? (i := 17) rfl)) (j := 0) rfl (zp_o0 (by omega) (by omega) (by omega) (by omega)) ?_
        rw [hps]
        refine ⟨rfl, rfl, ?_⟩
        show 3 = zy_kd p0
        unfold zy_kd
        have e1 := @zy_sm_i p0
        have e2 := @zy_dg_i p0
        by_cases c1 : zy_sm p0 = true
        · have := e1.mp c1
          first | exact (if_pos c1).symm | (exfalso; omega)
        · have n1 : ¬ (97 ≤ p0 ∧ p0 ≤ 122) := fun z => c1 (e1.mpr z)
          by_cases c2 : zy_dg p0 = true
          · have := e2.mp c2
            first | exact ((if_neg c1).trans (if_pos c2)).symm | (exfalso; omega)
          · have n2 : ¬ (48 ≤ p0 ∧ p0 ≤ 57) := fun z => c2 (e2.mpr z)
            first | exact ((if_neg c1).trans (if_neg c2)).symm | (exfalso; omega)
      · refine zp_load (pc := 20) hx hb (zd_X7_kindOf (20, .iload_n 0, 1, 0, []) (List.mem_of_getElem? (i := 11) rfl)) rfl (j := 0) rfl ?_
        refine zp_const (pc := 21) hx hb (zd_X7_kindOf (21, .bipush 57, 2, 0, []) (List.mem_of_getElem? (i := 12) rfl)) rfl rfl ?_
        refine zp_icmp (pc := 23) (tgt := 30) hx hb (zd_X7_kindOf (23, .if_icmp .gt 7, 3, 0, []) (List.mem_of_getElem? (i := 13) rfl)) rfl (fun (hc26 : 57 < p0) => ?_) (fun (hc26 : ¬ (57 < p0)) => ?_)
        · refine zp_const (pc := 30) hx hb (zd_X7_kindOf (30, .iconst 3, 1, 0, []) (List.mem_of_getElem? (i := 16) rfl)) rfl rfl ?_
          refine zp_iret (pc := 31) (n := 3) hx hb hE hQ hU5 rfl (by decide) (zd_X7_kindOf (31, .ireturn, 1, 0, []) (List.mem_of_getElem? (i := 17) rfl)) (j := 0) rfl (zp_o0 (by omega) (by omega) (by omega) (by omega)) ?_
          rw [hps]
          refine ⟨rfl, rfl, ?_⟩
          show 3 = zy_kd p0
          unfold zy_kd
          have e1 := @zy_sm_i p0
          have e2 := @zy_dg_i p0
          by_cases c1 : zy_sm p0 = true
          · have := e1.mp c1
            first | exact (if_pos c1).symm | (exfalso; omega)
          · have n1 : ¬ (97 ≤ p0 ∧ p0 ≤ 122) := fun z => c1 (e1.mpr z)
            by_cases c2 : zy_dg p0 = true
            · have := e2.mp c2
              first | exact ((if_neg c1).trans (if_pos c2)).symm | (exfalso; omega)
            · have n2 : ¬ (48 ≤ p0 ∧ p0 ≤ 57) := fun z => c2 (e2.mpr z)
              first | exact ((if_neg c1).trans (if_neg c2)).symm | (exfalso; omega)
        · refine zp_const (pc := 26) hx hb (zd_X7_kindOf (26, .iconst 2, 1, 0, []) (List.mem_of_getElem? (i := 14) rfl)) rfl rfl ?_
          refine zp_goto (tgt := 31) (pc := 27) hx hb (zd_X7_kindOf (27, .goto 4, 3, 0, []) (List.mem_of_getElem? (i := 15) rfl)) rfl ?_
          refine zp_iret (pc := 31) (n := 2) hx hb hE hQ hU5 rfl (by decide) (zd_X7_kindOf (31, .ireturn, 1, 0, []) (List.mem_of_getElem? (i := 17) rfl)) (j := 0) rfl (zp_o0 (by omega) (by omega) (by omega) (by omega)) ?_
          rw [hps]
          refine ⟨rfl, rfl, ?_⟩
          show 2 = zy_kd p0
          unfold zy_kd
          have e1 := @zy_sm_i p0
          have e2 := @zy_dg_i p0
          by_cases c1 : zy_sm p0 = true
          · have := e1.mp c1
            first | exact (if_pos c1).symm | (exfalso; omega)
          · have n1 : ¬ (97 ≤ p0 ∧ p0 ≤ 122) := fun z => c1 (e1.mpr z)
            by_cases c2 : zy_dg p0 = true
            · have := e2.mp c2
              first | exact ((if_neg c1).trans (if_pos c2)).symm | (exfalso; omega)
            · have n2 : ¬ (48 ≤ p0 ∧ p0 ≤ 57) := fun z => c2 (e2.mpr z)
              first | exact ((if_neg c1).trans (if_neg c2)).symm | (exfalso; omega)
    · refine zp_const (pc := 12) hx hb (zd_X7_kindOf (12, .iconst 1, 1, 0, []) (List.mem_of_getElem? (i := 6) rfl)) rfl rfl ?_
      refine zp_iret (pc := 13) (n := 1) hx hb hE hQ hU5 rfl (by decide) (zd_X7_kindOf (13, .ireturn, 1, 0, []) (List.mem_of_getElem? (i := 7) rfl)) (j := 0) rfl (zp_o0 (by omega) (by omega) (by omega) (by omega)) ?_
      rw [hps]
      refine ⟨rfl, rfl, ?_⟩
      show 1 = zy_kd p0
      unfold zy_kd
      have e1 := @zy_sm_i p0
      have e2 := @zy_dg_i p0
      by_cases c1 : zy_sm p0 = true
      · have := e1.mp c1
        first | exact (if_pos c1).symm | (exfalso; omega)
      · have n1 : ¬ (97 ≤ p0 ∧ p0 ≤ 122) := fun z => c1 (e1.mpr z)
        by_cases c2 : zy_dg p0 = true
        · have := e2.mp c2
          first | exact ((if_neg c1).trans (if_pos c2)).symm | (exfalso; omega)
        · have n2 : ¬ (48 ≤ p0 ∧ p0 ≤ 57) := fun z => c2 (e2.mpr z)
          first | exact ((if_neg c1).trans (if_neg c2)).symm | (exfalso; omega)
noncomputable def zK_cnx : zk_K := (zt_mn 43, prog_9_method_6_code, 1, (Option.none : Option Jvm.ClassFile.FieldType), 1, 7, [(2, 7, 0, 0)], [(none, [])], [(7, 2, 0), (7, 3, 0), (7, 4, 0), (7, 5, 0)], (1, 25, 0, 0))
noncomputable def zφ_cnx : (Nat → Option Nat) → (Nat → Nat → Int) → List Int → Prop := fun _ G ps => ∃ q : Nat, G (zp_0 ps) 4 = (q : Int) ∧ (q : Int) ≤ G (zp_0 ps) 1
noncomputable def zψ_cnx : (Nat → Option Nat) → (Nat → Nat → Int) → List Int → (Nat → Option Nat) → (Nat → Nat → Int) → Int → Prop := fun P G ps P' G' rn => P' = P ∧ ∀ q : Nat, G (zp_0 ps) 4 = (q : Int) → zy_tc (fun j => G (G (zp_0 ps) 0).toNat (2000 + j)) (G (zp_0 ps) 1).toNat G' (zp_0 ps) q
theorem zX_cnx {l : Launch} {w : zk_W} (hW : zh_W w) : zk_metX l w zt_dv zt_TB zK_cnx (zp_A zφ_cnx) (zp_B zψ_cnx) ∧ zk_cok w zt_TB zK_cnx := by
  refine zp_methX (cn := "WoundTown$Tape") zp_lkallT hW (pl := 720) rfl (by decide +kernel) (fun p e R s m args below meth c Q u hx hb hE hQ hU5 heff hnL hok hφ => ?_)
  have hw := hW.1
  obtain ⟨p0, hps, k0⟩ := zp_ps1 hok
  obtain ⟨a, rfl, hp⟩ := zp_this k0
  have hrm : zk_Kr (zk_ev (zt_types, zp_lkT, zt_dv, [], [], zp_lcT, zK_cnx)) = zk_Kr zK_cnx := rfl
  rw [hps] at hφ ⊢
  show zp_J p l e R s m args below meth c Q w u [] 0 [(0, 2, (a : Int))] [] u.1 (zp_n u.2.1)
  refine zp_kn (k := 1) (a := a) hw (show zp_fd 7 1 = some (7, 0, 0, 0, 400) from rfl) rfl hp (fun hkln => ?_)
  obtain ⟨ln, hln⟩ := zp_nat (zp_int hkln).1
  have hlnb := zp_int hkln
  rw [hln] at hlnb
  refine zp_kn (k := 0) (a := a) hw (show zp_fd 7 0 = some (7, 2, 29, 0, 0) from rfl) rfl hp (fun hkby_ => ?_)
  obtain ⟨by_, hby_, qby_⟩ := zp_this hkby_
  obtain ⟨q, hq4, hq1⟩ : ∃ q : Nat, zp_n u.2.1 a 4 = (q : Int) ∧ (q : Int) ≤ zp_n u.2.1 a 1 := hφ
  rw [hln] at hq1
  obtain ⟨B, hB⟩ : ∃ B : Nat → Int, B = fun j => zp_n u.2.1 by_ (2000 + j) := ⟨_, rfl⟩
  have hψ : ∀ G' : Nat → Nat → Int, zy_tc B ln G' a q → zψ_cnx u.1 (zp_n u.2.1) [(a : Int)] u.1 G' 0 := by
    intro G' h
    refine ⟨rfl, fun q2 h2 => ?_⟩
    have h2 : zp_n u.2.1 a 4 = (q2 : Int) := h2
    rw [hq4] at h2
    have : q2 = q := by omega
    subst this
    show zy_tc (fun j => zp_n u.2.1 (zp_n u.2.1 a 0).toNat (2000 + j)) (zp_n u.2.1 a 1).toNat G' a q2
    rw [hby_, hln, Int.toNat_natCast, Int.toNat_natCast, ← hB]
    exact h
  have loop2 : ∀ (n f t : Nat) (k : Int), ln - t < n → q ≤ f → f < t → t ≤ ln → zy_fr B ln q = f → zy_so B ln q = k → 1 ≤ k → k ≤ 3 → (k = 3 → t = f + 1) → (k < 3 → zy_to B ln q = zy_kr k B ln t) → ∀ (G : Nat → Nat → Int), G a 1 = (ln : Int) → G a 0 = (by_ : Int) → (∀ j, G by_ j = zp_n u.2.1 by_ j) → G a 2 = k → G a 3 = (f : Int) → G a 4 = (t : Int) → G a 5 = (if k = 3 then B f else -1) → zp_J p l e R s m args below meth c Q w u [] 112 [(0, 2, (a : Int))] [] u.1 G := by
    intro n
    induction n with
    | zero => intro f t k h; exact absurd h (Nat.not_lt_zero _)
    | succ n ih =>
      intro f t k hn h0 h1 h2 hfr hso hk1 hk3 ht3 hto G g1 g0 g0e g2 g3 g4 g5
      refine zp_load (pc := 112) hx hb (zd_X7_next (112, .aload_n 0, 1, 0, []) (List.mem_of_getElem? (i := 57) rfl)) rfl (j := 0) rfl ?_
      refine zp_getf (n := k) (pc := 113) hx hb hE hw (zd_X7_next (113, .getfield 35, 3, 0, []) (List.mem_of_getElem? (i := 58) rfl)) (j := 3) rfl rfl rfl hp g2 ?_
      refine zp_const (pc := 116) hx hb (zd_X7_next (116, .iconst 3, 1, 0, []) (List.mem_of_getElem? (i := 59) rfl)) rfl rfl ?_
      refine zp_icmp (pc := 117) (tgt := 162) hx hb (zd_X7_next (117, .if_icmp .eq 45, 3, 0, []) (List.mem_of_getElem? (i := 60) rfl)) rfl (fun (hc27 : k = 3) => ?_) (fun (hc27 : ¬ (k = 3)) => ?_)
      · refine zp_vret (pc := 162) hx hb hE hQ hU5 rfl (by decide) (zd_X7_next (162, .return_, 1, 0, []) (List.mem_of_getElem? (i := 81) rfl)) (j := 0) rfl ?_
        rw [hps]
        refine hψ _ ⟨by omega, ?_, ?_, ?_, ?_⟩
        · show G a 2 = _
          rw [g2, hso]
        · show G a 3 = _
          rw [g3, hfr]
        · show G a 4 = _
          rw [g4]
          by_cases hk9 : k = 3
          · rw [zy_to_3 (by omega), hfr, ht3 hk9]
          · rw [hto (by omega), zy_kr_no (by omega) (fun z => by
              obtain ⟨z1, z2⟩ := z
              omega)]
        · show G a 5 = _
          rw [g5, hfr]
          by_cases hk9 : k = 3
          · rw [if_pos hk9, if_pos (by omega)]
          · rw [if_neg hk9, if_neg (by omega)]
      · refine zp_load (pc := 120) hx hb (zd_X7_next (120, .aload_n 0, 1, 0, []) (List.mem_of_getElem? (i := 61) rfl)) rfl (j := 0) rfl ?_
        refine zp_getf (n := (t : Int)) (pc := 121) hx hb hE hw (zd_X7_next (121, .getfield 19, 3, 0, []) (List.mem_of_getElem? (i := 62) rfl)) (j := 5) rfl rfl rfl hp g4 ?_
        refine zp_load (pc := 124) hx hb (zd_X7_next (124, .aload_n 0, 1, 0, []) (List.mem_of_getElem? (i := 63) rfl)) rfl (j := 0) rfl ?_
        refine zp_getf (n := (ln : Int)) (pc := 125) hx hb hE hw (zd_X7_next (125, .getfield 15, 3, 0, []) (List.mem_of_getElem? (i := 64) rfl)) (j := 2) rfl rfl rfl hp g1 ?_
        refine zp_icmp (pc := 128) (tgt := 162) hx hb (zd_X7_next (128, .if_icmp .ge 34, 3, 0, []) (List.mem_of_getElem? (i := 65) rfl)) rfl (fun (hc28 : (ln : Int) ≤ (t : Int)) => ?_) (fun (hc28 : ¬ ((ln : Int) ≤ (t : Int))) => ?_)
        · refine zp_vret (pc := 162) hx hb hE hQ hU5 rfl (by decide) (zd_X7_next (162, .return_, 1, 0, []) (List.mem_of_getElem? (i := 81) rfl)) (j := 0) rfl ?_
          rw [hps]
          refine hψ _ ⟨by omega, ?_, ?_, ?_, ?_⟩
          · show G a 2 = _
            rw [g2, hso]
          · show G a 3 = _
            rw [g3, hfr]
          · show G a 4 = _
            rw [g4]
            by_cases hk9 : k = 3
            · rw [zy_to_3 (by omega), hfr, ht3 hk9]
            · rw [hto (by omega), zy_kr_no (by omega) (fun z => by
                obtain ⟨z1, z2⟩ := z
                omega)]
          · show G a 5 = _
            rw [g5, hfr]
            by_cases hk9 : k = 3
            · rw [if_pos hk9, if_pos (by omega)]
            · rw [if_neg hk9, if_neg (by omega)]
        · refine zp_load (pc := 131) hx hb (zd_X7_next (131, .aload_n 0, 1, 0, []) (List.mem_of_getElem? (i := 66) rfl)) rfl (j := 0) rfl ?_
          refine zp_load (pc := 132) hx hb (zd_X7_next (132, .aload_n 0, 1, 0, []) (List.mem_of_getElem? (i := 67) rfl)) rfl (j := 0) rfl ?_
          refine zp_getf (n := (t : Int)) (pc := 133) hx hb hE hw (zd_X7_next (133, .getfield 19, 3, 0, []) (List.mem_of_getElem? (i := 68) rfl)) (j := 5) rfl rfl rfl hp g4 ?_
          refine zp_call (pc := 136) (how := 0) (idx := 25) (mi := 37) (S := []) hx hb hE hw heff hrm (zX_bya hW) rfl (j := 1) rfl rfl (by decide +kernel) (zd_X7_next (136, .invokevirtual 25, 3, 0, []) (List.mem_of_getElem? (i := 69) rfl)) [(a : Int), (t : Int)] rfl ⟨zp_o2 hp, zp_o0 (by omega) (by omega) (by omega) (by omega), trivial⟩ (Nat.le_of_ble_eq_true rfl) trivial (fun al hal rnb29 Pb29 Gb29 hextb29 hfrb29 hokb29 hcsb29 hpsib29 => ?_)
          obtain rfl := List.mem_singleton.mp hal
          have hrb29 := zp_int (hokb29 _ rfl).1
          obtain ⟨hPeb29, hGeb29, htb29⟩ := hpsib29
          rw [hPeb29, hGeb29]
          have hvb29 := (htb29 t rfl).1 (show ((t : Nat) : Int) < G a 1 by rw [show G a 1 = (ln : Int) from g1]; omega)
          have hvb29 : rnb29 = B t := by
            rw [hB]
            refine hvb29.trans ?_
            show G (G a 0).toNat (2000 + t) = zp_n u.2.1 by_ (2000 + t)
            rw [show G a 0 = (by_ : Int) from g0, Int.toNat_natCast]
            exact g0e _
          refine zp_call (pc := 139) (how := 1) (idx := 38) (mi := 44) (S := []) hx hb hE hw heff hrm (zX_kof hW) rfl (j := 2) rfl rfl (by decide +kernel) (zd_X7_next (139, .invokestatic 38, 3, 0, []) (List.mem_of_getElem? (i := 70) rfl)) [rnb29] rfl ⟨zp_o0 (by omega) (by omega) (by omega) (by omega), trivial⟩ (Nat.le_of_ble_eq_true rfl) trivial (fun al hal rnk30 Pk30 Gk30 hextk30 hfrk30 hokk30 hcsk30 hpsik30 => ?_)
          obtain rfl := List.mem_singleton.mp hal
          have hrk30 := zp_int (hokk30 _ rfl).1
          obtain ⟨hPek30, hGek30, htk30⟩ := hpsik30
          rw [hPek30, hGek30]
          have htk30 : rnk30 = zy_kd rnb29 := htk30
          refine zp_load (pc := 142) hx hb (zd_X7_next (142, .aload_n 0, 1, 0, []) (List.mem_of_getElem? (i := 71) rfl)) rfl (j := 0) rfl ?_
          refine zp_getf (n := k) (pc := 143) hx hb hE hw (zd_X7_next (143, .getfield 35, 3, 0, []) (List.mem_of_getElem? (i := 72) rfl)) (j := 3) rfl rfl rfl hp g2 ?_
          refine zp_icmp (pc := 146) (tgt := 162) hx hb (zd_X7_next (146, .if_icmp .ne 16, 3, 0, []) (List.mem_of_getElem? (i := 73) rfl)) rfl (fun (hc31 : ¬ rnk30 = k) => ?_) (fun (hc31 : ¬ (¬ rnk30 = k)) => ?_)
          · refine zp_vret (pc := 162) hx hb hE hQ hU5 rfl (by decide) (zd_X7_next (162, .return_, 1, 0, []) (List.mem_of_getElem? (i := 81) rfl)) (j := 0) rfl ?_
            rw [hps]
            refine hψ _ ⟨by omega, ?_, ?_, ?_, ?_⟩
            · show G a 2 = _
              rw [g2, hso]
            · show G a 3 = _
              rw [g3, hfr]
            · show G a 4 = _
              rw [g4]
              by_cases hk9 : k = 3
              · rw [zy_to_3 (by omega), hfr, ht3 hk9]
              · rw [hto (by omega), zy_kr_no (by omega) (fun z => by
                  obtain ⟨z1, z2⟩ := z
                  first | omega | (rw [← hvb29] at z2; omega))]
            · show G a 5 = _
              rw [g5, hfr]
              by_cases hk9 : k = 3
              · rw [if_pos hk9, if_pos (by omega)]
              · rw [if_neg hk9, if_neg (by omega)]
          · refine zp_load (pc := 149) hx hb (zd_X7_next (149, .aload_n 0, 1, 0, []) (List.mem_of_getElem? (i := 74) rfl)) rfl (j := 0) rfl ?_
            refine zp_dup (pc := 150) hx hb (zd_X7_next (150, .dup, 1, 0, []) (List.mem_of_getElem? (i := 75) rfl)) (show (2 : Nat) ≠ 1 by decide) ?_
            refine zp_getf (n := (t : Int)) (pc := 151) hx hb hE hw (zd_X7_next (151, .getfield 19, 3, 0, []) (List.mem_of_getElem? (i := 76) rfl)) (j := 5) rfl rfl rfl hp g4 ?_
            refine zp_const (pc := 154) hx hb (zd_X7_next (154, .iconst 1, 1, 0, []) (List.mem_of_getElem? (i := 77) rfl)) rfl rfl ?_
            refine zp_add (n := ((t : Int) + 1)) (pc := 155) hx hb (zd_X7_next (155, .iadd, 1, 0, []) (List.mem_of_getElem? (i := 78) rfl)) (by omega) (zp_r0 (by omega) (by omega)) ?_
            refine zp_putf (pc := 156) hx hb hE hw heff (zd_X7_next (156, .putfield 19, 3, 0, []) (List.mem_of_getElem? (i := 79) rfl)) (j := 5) rfl rfl rfl hp (zp_o0 (by omega) (by omega) (by omega) (by omega)) ?_
            refine zp_goto (tgt := 112) (pc := 159) hx hb (zd_X7_next (159, .goto (-47), 3, 0, []) (List.mem_of_getElem? (i := 80) rfl)) rfl ?_
            refine ih f (t + 1) k (by omega) h0 (by omega) (by omega) hfr hso hk1 hk3 (fun h9 => by omega) (fun h9 => ?_) _ ?_ ?_ ?_ ?_ ?_ ?_ ?_
            · rw [hto h9, zy_kr_go (by omega) (by omega) (by rw [← hvb29]; omega)]
            · exact ((zp_set_ne (Or.inr (by decide))).trans (g1))
            · exact ((zp_set_ne (Or.inr (by decide))).trans (g0))
            · intro j
              rw [zp_set_ne (Or.inl (zp_pne qby_ hp (by decide)))]
              exact g0e j
            · exact ((zp_set_ne (Or.inr (by decide))).trans (g2))
            · exact ((zp_set_ne (Or.inr (by decide))).trans (g3))
            · exact zp_set_self
            · exact (((zp_set_ne (Or.inr (by decide))))).trans g5
  have h37 : ∀ (f : Nat), q ≤ f → f ≤ ln → zy_fr B ln q = f → ∀ (G : Nat → Nat → Int), G a 1 = (ln : Int) → G a 0 = (by_ : Int) → (∀ j, G by_ j = zp_n u.2.1 by_ j) → G a 4 = (f : Int) → zp_J p l e R s m args below meth c Q w u [] 37 [(0, 2, (a : Int))] [] u.1 G := by
    intro f h0 h1 hfr G g1 g0 g0e g4
    refine zp_load (pc := 37) hx hb (zd_X7_next (37, .aload_n 0, 1, 0, []) (List.mem_of_getElem? (i := 18) rfl)) rfl (j := 0) rfl ?_
    refine zp_load (pc := 38) hx hb (zd_X7_next (38, .aload_n 0, 1, 0, []) (List.mem_of_getElem? (i := 19) rfl)) rfl (j := 0) rfl ?_
    refine zp_getf (n := (f : Int)) (pc := 39) hx hb hE hw (zd_X7_next (39, .getfield 19, 3, 0, []) (List.mem_of_getElem? (i := 20) rfl)) (j := 5) rfl rfl rfl hp g4 ?_
    refine zp_putf (pc := 42) hx hb hE hw heff (zd_X7_next (42, .putfield 29, 3, 0, []) (List.mem_of_getElem? (i := 21) rfl)) (j := 4) rfl rfl rfl hp (zp_o0 (by omega) (by omega) (by omega) (by omega)) ?_
    refine zp_load (pc := 45) hx hb (zd_X7_next (45, .aload_n 0, 1, 0, []) (List.mem_of_getElem? (i := 22) rfl)) rfl (j := 0) rfl ?_
    refine zp_const (pc := 46) hx hb (zd_X7_next (46, .iconst (-1), 1, 0, []) (List.mem_of_getElem? (i := 23) rfl)) rfl rfl ?_
    refine zp_putf (pc := 47) hx hb hE hw heff (zd_X7_next (47, .putfield 32, 3, 0, []) (List.mem_of_getElem? (i := 24) rfl)) (j := 6) rfl rfl rfl hp (zp_o0 (by decide) (by decide) (by decide) (by decide)) ?_
    refine zp_load (pc := 50) hx hb (zd_X7_next (50, .aload_n 0, 1, 0, []) (List.mem_of_getElem? (i := 25) rfl)) rfl (j := 0) rfl ?_
    refine zp_getf (n := (f : Int)) (pc := 51) hx hb hE hw (zd_X7_next (51, .getfield 29, 3, 0, []) (List.mem_of_getElem? (i := 26) rfl)) (j := 4) rfl rfl rfl hp ((zp_set_ne (Or.inr (by decide))).trans (zp_set_self)) ?_
    refine zp_load (pc := 54) hx hb (zd_X7_next (54, .aload_n 0, 1, 0, []) (List.mem_of_getElem? (i := 27) rfl)) rfl (j := 0) rfl ?_
    refine zp_getf (n := (ln : Int)) (pc := 55) hx hb hE hw (zd_X7_next (55, .getfield 15, 3, 0, []) (List.mem_of_getElem? (i := 28) rfl)) (j := 2) rfl rfl rfl hp ((zp_set_ne (Or.inr (by decide))).trans ((zp_set_ne (Or.inr (by decide))).trans (g1))) ?_
    refine zp_icmp (pc := 58) (tgt := 67) hx hb (zd_X7_next (58, .if_icmp .lt 9, 3, 0, []) (List.mem_of_getElem? (i := 29) rfl)) rfl (fun (hc32 : (f : Int) < (ln : Int)) => ?_) (fun (hc32 : ¬ ((f : Int) < (ln : Int))) => ?_)
    · refine zp_load (pc := 67) hx hb (zd_X7_next (67, .aload_n 0, 1, 0, []) (List.mem_of_getElem? (i := 34) rfl)) rfl (j := 0) rfl ?_
      refine zp_load (pc := 68) hx hb (zd_X7_next (68, .aload_n 0, 1, 0, []) (List.mem_of_getElem? (i := 35) rfl)) rfl (j := 0) rfl ?_
      refine zp_load (pc := 69) hx hb (zd_X7_next (69, .aload_n 0, 1, 0, []) (List.mem_of_getElem? (i := 36) rfl)) rfl (j := 0) rfl ?_
      refine zp_getf (n := (f : Int)) (pc := 70) hx hb hE hw (zd_X7_next (70, .getfield 29, 3, 0, []) (List.mem_of_getElem? (i := 37) rfl)) (j := 4) rfl rfl rfl hp ((zp_set_ne (Or.inr (by decide))).trans (zp_set_self)) ?_
      refine zp_call (pc := 73) (how := 0) (idx := 25) (mi := 37) (S := [(2, (a : Int))]) hx hb hE hw heff hrm (zX_bya hW) rfl (j := 1) rfl rfl (by decide +kernel) (zd_X7_next (73, .invokevirtual 25, 3, 0, []) (List.mem_of_getElem? (i := 38) rfl)) [(a : Int), (f : Int)] rfl ⟨zp_o2 hp, zp_o0 (by omega) (by omega) (by omega) (by omega), trivial⟩ (Nat.le_of_ble_eq_true rfl) trivial (fun al hal rnb33 Pb33 Gb33 hextb33 hfrb33 hokb33 hcsb33 hpsib33 => ?_)
      obtain rfl := List.mem_singleton.mp hal
      have hrb33 := zp_int (hokb33 _ rfl).1
      obtain ⟨hPeb33, hGeb33, htb33⟩ := hpsib33
      rw [hPeb33, hGeb33]
      have hvb33 := (htb33 f rfl).1 (show ((f : Nat) : Int) < (zp_set (zp_set G a 3 (f : Int)) a 5 (-1)) a 1 by rw [show (zp_set (zp_set G a 3 (f : Int)) a 5 (-1)) a 1 = (ln : Int) from ((zp_set_ne (Or.inr (by decide))).trans ((zp_set_ne (Or.inr (by decide))).trans (g1)))]; omega)
      have hvb33 : rnb33 = B f := by
        rw [hB]
        refine hvb33.trans ?_
        show (zp_set (zp_set G a 3 (f : Int)) a 5 (-1)) ((zp_set (zp_set G a 3 (f : Int)) a 5 (-1)) a 0).toNat (2000 + f) = zp_n u.2.1 by_ (2000 + f)
        rw [show (zp_set (zp_set G a 3 (f : Int)) a 5 (-1)) a 0 = (by_ : Int) from ((zp_set_ne (Or.inr (by decide))).trans ((zp_set_ne (Or.inr (by decide))).trans (g0))), Int.toNat_natCast]
        rw [zp_set_ne (Or.inl (zp_pne qby_ hp (by decide)))]
        rw [zp_set_ne (Or.inl (zp_pne qby_ hp (by decide)))]
        exact g0e _
      refine zp_call (pc := 76) (how := 1) (idx := 38) (mi := 44) (S := [(2, (a : Int))]) hx hb hE hw heff hrm (zX_kof hW) rfl (j := 2) rfl rfl (by decide +kernel) (zd_X7_next (76, .invokestatic 38, 3, 0, []) (List.mem_of_getElem? (i := 39) rfl)) [rnb33] rfl ⟨zp_o0 (by omega) (by omega) (by omega) (by omega), trivial⟩ (Nat.le_of_ble_eq_true rfl) trivial (fun al hal rnk34 Pk34 Gk34 hextk34 hfrk34 hokk34 hcsk34 hpsik34 => ?_)
      obtain rfl := List.mem_singleton.mp hal
      have hrk34 := zp_int (hokk34 _ rfl).1
      obtain ⟨hPek34, hGek34, htk34⟩ := hpsik34
      rw [hPek34, hGek34]
      have htk34 : rnk34 = zy_kd rnb33 := htk34
      refine zp_putf (pc := 79) hx hb hE hw heff (zd_X7_next (79, .putfield 35, 3, 0, []) (List.mem_of_getElem? (i := 40) rfl)) (j := 3) rfl rfl rfl hp (zp_o0 (by omega) (by omega) (by omega) (by omega)) ?_
      refine zp_load (pc := 82) hx hb (zd_X7_next (82, .aload_n 0, 1, 0, []) (List.mem_of_getElem? (i := 41) rfl)) rfl (j := 0) rfl ?_
      refine zp_getf (n := rnk34) (pc := 83) hx hb hE hw (zd_X7_next (83, .getfield 35, 3, 0, []) (List.mem_of_getElem? (i := 42) rfl)) (j := 3) rfl rfl rfl hp zp_set_self ?_
      refine zp_const (pc := 86) hx hb (zd_X7_next (86, .iconst 3, 1, 0, []) (List.mem_of_getElem? (i := 43) rfl)) rfl rfl ?_
      refine zp_icmp (pc := 87) (tgt := 102) hx hb (zd_X7_next (87, .if_icmp .ne 15, 3, 0, []) (List.mem_of_getElem? (i := 44) rfl)) rfl (fun (hc35 : ¬ rnk34 = 3) => ?_) (fun (hc35 : ¬ (¬ rnk34 = 3)) => ?_)
      · refine zp_load (pc := 102) hx hb (zd_X7_next (102, .aload_n 0, 1, 0, []) (List.mem_of_getElem? (i := 51) rfl)) rfl (j := 0) rfl ?_
        refine zp_dup (pc := 103) hx hb (zd_X7_next (103, .dup, 1, 0, []) (List.mem_of_getElem? (i := 52) rfl)) (show (2 : Nat) ≠ 1 by decide) ?_
        refine zp_getf (n := (f : Int)) (pc := 104) hx hb hE hw (zd_X7_next (104, .getfield 19, 3, 0, []) (List.mem_of_getElem? (i := 53) rfl)) (j := 5) rfl rfl rfl hp ((zp_set_ne (Or.inr (by decide))).trans ((zp_set_ne (Or.inr (by decide))).trans ((zp_set_ne (Or.inr (by decide))).trans (g4)))) ?_
        refine zp_const (pc := 107) hx hb (zd_X7_next (107, .iconst 1, 1, 0, []) (List.mem_of_getElem? (i := 54) rfl)) rfl rfl ?_
        refine zp_add (n := ((f : Int) + 1)) (pc := 108) hx hb (zd_X7_next (108, .iadd, 1, 0, []) (List.mem_of_getElem? (i := 55) rfl)) (by omega) (zp_r0 (by omega) (by omega)) ?_
        refine zp_putf (pc := 109) hx hb hE hw heff (zd_X7_next (109, .putfield 19, 3, 0, []) (List.mem_of_getElem? (i := 56) rfl)) (j := 5) rfl rfl rfl hp (zp_o0 (by omega) (by omega) (by omega) (by omega)) ?_
        have hso := zy_so_in (B := B) (len := ln) (p := q) (by omega)
        rw [hfr] at hso
        have hk9 : (zy_so B ln q : Int) = rnk34 := by rw [hso, htk34, hvb33]
        refine loop2 (ln + 1) f (f + 1) rnk34 (by omega) h0 (by omega) (by omega) hfr hk9 (by omega) (by omega) (fun _ => rfl) (fun h9 => ?_) _ ?_ ?_ ?_ ?_ ?_ ?_ ?_
        · have hkd : zy_kd (B f) = rnk34 := by omega
          rw [← zy_kr_go (by omega) (by omega) hkd]
          unfold zy_kr
          by_cases h8 : rnk34 = 1
          · rw [if_pos h8, zy_to_1 (by omega), hfr]
          · rw [if_neg h8, zy_to_2 (by omega), hfr]
        · exact ((zp_set_ne (Or.inr (by decide))).trans ((zp_set_ne (Or.inr (by decide))).trans ((zp_set_ne (Or.inr (by decide))).trans ((zp_set_ne (Or.inr (by decide))).trans (g1)))))
        · exact ((zp_set_ne (Or.inr (by decide))).trans ((zp_set_ne (Or.inr (by decide))).trans ((zp_set_ne (Or.inr (by decide))).trans ((zp_set_ne (Or.inr (by decide))).trans (g0)))))
        · intro j
          rw [zp_set_ne (Or.inl (zp_pne qby_ hp (by decide)))]
          rw [zp_set_ne (Or.inl (zp_pne qby_ hp (by decide)))]
          rw [zp_set_ne (Or.inl (zp_pne qby_ hp (by decide)))]
          rw [zp_set_ne (Or.inl (zp_pne qby_ hp (by decide)))]
          exact g0e j
        · exact ((zp_set_ne (Or.inr (by decide))).trans (zp_set_self))
        · exact ((zp_set_ne (Or.inr (by decide))).trans ((zp_set_ne (Or.inr (by decide))).trans ((zp_set_ne (Or.inr (by decide))).trans (zp_set_self))))
        · exact zp_set_self
        · refine (((zp_set_ne (Or.inr (by decide))).trans ((zp_set_ne (Or.inr (by decide))).trans (zp_set_self)))).trans ?_
          rw [if_neg (by omega)]
      · refine zp_load (pc := 90) hx hb (zd_X7_next (90, .aload_n 0, 1, 0, []) (List.mem_of_getElem? (i := 45) rfl)) rfl (j := 0) rfl ?_
        refine zp_load (pc := 91) hx hb (zd_X7_next (91, .aload_n 0, 1, 0, []) (List.mem_of_getElem? (i := 46) rfl)) rfl (j := 0) rfl ?_
        refine zp_load (pc := 92) hx hb (zd_X7_next (92, .aload_n 0, 1, 0, []) (List.mem_of_getElem? (i := 47) rfl)) rfl (j := 0) rfl ?_
        refine zp_getf (n := (f : Int)) (pc := 93) hx hb hE hw (zd_X7_next (93, .getfield 29, 3, 0, []) (List.mem_of_getElem? (i := 48) rfl)) (j := 4) rfl rfl rfl hp ((zp_set_ne (Or.inr (by decide))).trans ((zp_set_ne (Or.inr (by decide))).trans (zp_set_self))) ?_
        refine zp_call (pc := 96) (how := 0) (idx := 25) (mi := 37) (S := [(2, (a : Int))]) hx hb hE hw heff hrm (zX_bya hW) rfl (j := 1) rfl rfl (by decide +kernel) (zd_X7_next (96, .invokevirtual 25, 3, 0, []) (List.mem_of_getElem? (i := 49) rfl)) [(a : Int), (f : Int)] rfl ⟨zp_o2 hp, zp_o0 (by omega) (by omega) (by omega) (by omega), trivial⟩ (Nat.le_of_ble_eq_true rfl) trivial (fun al hal rnb36 Pb36 Gb36 hextb36 hfrb36 hokb36 hcsb36 hpsib36 => ?_)
        obtain rfl := List.mem_singleton.mp hal
        have hrb36 := zp_int (hokb36 _ rfl).1
        obtain ⟨hPeb36, hGeb36, htb36⟩ := hpsib36
        rw [hPeb36, hGeb36]
        have hvb36 := (htb36 f rfl).1 (show ((f : Nat) : Int) < (zp_set (zp_set (zp_set G a 3 (f : Int)) a 5 (-1)) a 2 rnk34) a 1 by rw [show (zp_set (zp_set (zp_set G a 3 (f : Int)) a 5 (-1)) a 2 rnk34) a 1 = (ln : Int) from ((zp_set_ne (Or.inr (by decide))).trans ((zp_set_ne (Or.inr (by decide))).trans ((zp_set_ne (Or.inr (by decide))).trans (g1))))]; omega)
        have hvb36 : rnb36 = B f := by
          rw [hB]
          refine hvb36.trans ?_
          show (zp_set (zp_set (zp_set G a 3 (f : Int)) a 5 (-1)) a 2 rnk34) ((zp_set (zp_set (zp_set G a 3 (f : Int)) a 5 (-1)) a 2 rnk34) a 0).toNat (2000 + f) = zp_n u.2.1 by_ (2000 + f)
          rw [show (zp_set (zp_set (zp_set G a 3 (f : Int)) a 5 (-1)) a 2 rnk34) a 0 = (by_ : Int) from ((zp_set_ne (Or.inr (by decide))).trans ((zp_set_ne (Or.inr (by decide))).trans ((zp_set_ne (Or.inr (by decide))).trans (g0)))), Int.toNat_natCast]
          rw [zp_set_ne (Or.inl (zp_pne qby_ hp (by decide)))]
          rw [zp_set_ne (Or.inl (zp_pne qby_ hp (by decide)))]
          rw [zp_set_ne (Or.inl (zp_pne qby_ hp (by decide)))]
          exact g0e _
        refine zp_putf (pc := 99) hx hb hE hw heff (zd_X7_next (99, .putfield 32, 3, 0, []) (List.mem_of_getElem? (i := 50) rfl)) (j := 6) rfl rfl rfl hp (zp_o0 (by omega) (by omega) (by omega) (by omega)) ?_
        refine zp_load (pc := 102) hx hb (zd_X7_next (102, .aload_n 0, 1, 0, []) (List.mem_of_getElem? (i := 51) rfl)) rfl (j := 0) rfl ?_
        refine zp_dup (pc := 103) hx hb (zd_X7_next (103, .dup, 1, 0, []) (List.mem_of_getElem? (i := 52) rfl)) (show (2 : Nat) ≠ 1 by decide) ?_
        refine zp_getf (n := (f : Int)) (pc := 104) hx hb hE hw (zd_X7_next (104, .getfield 19, 3, 0, []) (List.mem_of_getElem? (i := 53) rfl)) (j := 5) rfl rfl rfl hp ((zp_set_ne (Or.inr (by decide))).trans ((zp_set_ne (Or.inr (by decide))).trans ((zp_set_ne (Or.inr (by decide))).trans ((zp_set_ne (Or.inr (by decide))).trans (g4))))) ?_
        refine zp_const (pc := 107) hx hb (zd_X7_next (107, .iconst 1, 1, 0, []) (List.mem_of_getElem? (i := 54) rfl)) rfl rfl ?_
        refine zp_add (n := ((f : Int) + 1)) (pc := 108) hx hb (zd_X7_next (108, .iadd, 1, 0, []) (List.mem_of_getElem? (i := 55) rfl)) (by omega) (zp_r0 (by omega) (by omega)) ?_
        refine zp_putf (pc := 109) hx hb hE hw heff (zd_X7_next (109, .putfield 19, 3, 0, []) (List.mem_of_getElem? (i := 56) rfl)) (j := 5) rfl rfl rfl hp (zp_o0 (by omega) (by omega) (by omega) (by omega)) ?_
        have hso := zy_so_in (B := B) (len := ln) (p := q) (by omega)
        rw [hfr] at hso
        have hk9 : (zy_so B ln q : Int) = rnk34 := by rw [hso, htk34, hvb33]
        refine loop2 (ln + 1) f (f + 1) rnk34 (by omega) h0 (by omega) (by omega) hfr hk9 (by omega) (by omega) (fun _ => rfl) (fun h9 => ?_) _ ?_ ?_ ?_ ?_ ?_ ?_ ?_
        · have hkd : zy_kd (B f) = rnk34 := by omega
          rw [← zy_kr_go (by omega) (by omega) hkd]
          unfold zy_kr
          by_cases h8 : rnk34 = 1
          · rw [if_pos h8, zy_to_1 (by omega), hfr]
          · rw [if_neg h8, zy_to_2 (by omega), hfr]
        · exact ((zp_set_ne (Or.inr (by decide))).trans ((zp_set_ne (Or.inr (by decide))).trans ((zp_set_ne (Or.inr (by decide))).trans ((zp_set_ne (Or.inr (by decide))).trans ((zp_set_ne (Or.inr (by decide))).trans (g1))))))
        · exact ((zp_set_ne (Or.inr (by decide))).trans ((zp_set_ne (Or.inr (by decide))).trans ((zp_set_ne (Or.inr (by decide))).trans ((zp_set_ne (Or.inr (by decide))).trans ((zp_set_ne (Or.inr (by decide))).trans (g0))))))
        · intro j
          rw [zp_set_ne (Or.inl (zp_pne qby_ hp (by decide)))]
          rw [zp_set_ne (Or.inl (zp_pne qby_ hp (by decide)))]
          rw [zp_set_ne (Or.inl (zp_pne qby_ hp (by decide)))]
          rw [zp_set_ne (Or.inl (zp_pne qby_ hp (by decide)))]
          rw [zp_set_ne (Or.inl (zp_pne qby_ hp (by decide)))]
          exact g0e j
        · exact ((zp_set_ne (Or.inr (by decide))).trans ((zp_set_ne (Or.inr (by decide))).trans (zp_set_self)))
        · exact ((zp_set_ne (Or.inr (by decide))).trans ((zp_set_ne (Or.inr (by decide))).trans ((zp_set_ne (Or.inr (by decide))).trans ((zp_set_ne (Or.inr (by decide))).trans (zp_set_self)))))
        · exact zp_set_self
        · refine (((zp_set_ne (Or.inr (by decide))).trans (zp_set_self))).trans ?_
          rw [if_pos (by omega)]
          omega
    · refine zp_load (pc := 61) hx hb (zd_X7_next (61, .aload_n 0, 1, 0, []) (List.mem_of_getElem? (i := 30) rfl)) rfl (j := 0) rfl ?_
      refine zp_const (pc := 62) hx hb (zd_X7_next (62, .iconst 0, 1, 0, []) (List.mem_of_getElem? (i := 31) rfl)) rfl rfl ?_
      refine zp_putf (pc := 63) hx hb hE hw heff (zd_X7_next (63, .putfield 35, 3, 0, []) (List.mem_of_getElem? (i := 32) rfl)) (j := 3) rfl rfl rfl hp (zp_o0 (by decide) (by decide) (by decide) (by decide)) ?_
      refine zp_vret (pc := 66) hx hb hE hQ hU5 rfl (by decide) (zd_X7_next (66, .return_, 1, 0, []) (List.mem_of_getElem? (i := 33) rfl)) (j := 0) rfl ?_
      rw [hps]
      have hz := zy_so_out (B := B) (len := ln) (p := q) (by omega)
      refine hψ _ ⟨by omega, ?_, ?_, ?_, ?_⟩
      · rw [hz]
        exact zp_set_self
      · rw [hfr]
        exact ((zp_set_ne (Or.inr (by decide))).trans ((zp_set_ne (Or.inr (by decide))).trans (zp_set_self)))
      · rw [zy_to_0 hz, hfr]
        exact ((zp_set_ne (Or.inr (by decide))).trans ((zp_set_ne (Or.inr (by decide))).trans ((zp_set_ne (Or.inr (by decide))).trans (g4))))
      · rw [hz, if_neg (by decide)]
        exact ((zp_set_ne (Or.inr (by decide))).trans (zp_set_self))
  have loop1 : ∀ (n f : Nat), ln - f < n → q ≤ f → f ≤ ln → zy_fr B ln q = zy_r zy_bl B ln f → ∀ (G : Nat → Nat → Int), G a 1 = (ln : Int) → G a 0 = (by_ : Int) → (∀ j, G by_ j = zp_n u.2.1 by_ j) → G a 4 = (f : Int) → zp_J p l e R s m args below meth c Q w u [] 0 [(0, 2, (a : Int))] [] u.1 G := by
    clear hψ loop2
    intro n
    induction n with
    | zero => intro f h; exact absurd h (Nat.not_lt_zero _)
    | succ n ih =>
      intro f hn h0 h1 hfr G g1 g0 g0e g4
      refine zp_load (pc := 0) hx hb (zd_X7_next (0, .aload_n 0, 1, 0, []) (List.mem_of_getElem? (i := 0) rfl)) rfl (j := 0) rfl ?_
      refine zp_getf (n := (f : Int)) (pc := 1) hx hb hE hw (zd_X7_next (1, .getfield 19, 3, 0, []) (List.mem_of_getElem? (i := 1) rfl)) (j := 5) rfl rfl rfl hp g4 ?_
      refine zp_load (pc := 4) hx hb (zd_X7_next (4, .aload_n 0, 1, 0, []) (List.mem_of_getElem? (i := 2) rfl)) rfl (j := 0) rfl ?_
      refine zp_getf (n := (ln : Int)) (pc := 5) hx hb hE hw (zd_X7_next (5, .getfield 15, 3, 0, []) (List.mem_of_getElem? (i := 3) rfl)) (j := 2) rfl rfl rfl hp g1 ?_
      refine zp_icmp (pc := 8) (tgt := 37) hx hb (zd_X7_next (8, .if_icmp .ge 29, 3, 0, []) (List.mem_of_getElem? (i := 4) rfl)) rfl (fun (hc37 : (ln : Int) ≤ (f : Int)) => ?_) (fun (hc37 : ¬ ((ln : Int) ≤ (f : Int))) => ?_)
      · refine h37 f h0 h1 (hfr.trans (zy_r_no (fun z => ?_))) _ g1 g0 g0e g4
        have z2 := zy_bl_i.mp z.2
        omega
      · refine zp_load (pc := 11) hx hb (zd_X7_next (11, .aload_n 0, 1, 0, []) (List.mem_of_getElem? (i := 5) rfl)) rfl (j := 0) rfl ?_
        refine zp_load (pc := 12) hx hb (zd_X7_next (12, .aload_n 0, 1, 0, []) (List.mem_of_getElem? (i := 6) rfl)) rfl (j := 0) rfl ?_
        refine zp_getf (n := (f : Int)) (pc := 13) hx hb hE hw (zd_X7_next (13, .getfield 19, 3, 0, []) (List.mem_of_getElem? (i := 7) rfl)) (j := 5) rfl rfl rfl hp g4 ?_
        refine zp_call (pc := 16) (how := 0) (idx := 25) (mi := 37) (S := []) hx hb hE hw heff hrm (zX_bya hW) rfl (j := 1) rfl rfl (by decide +kernel) (zd_X7_next (16, .invokevirtual 25, 3, 0, []) (List.mem_of_getElem? (i := 8) rfl)) [(a : Int), (f : Int)] rfl ⟨zp_o2 hp, zp_o0 (by omega) (by omega) (by omega) (by omega), trivial⟩ (Nat.le_of_ble_eq_true rfl) trivial (fun al hal rnb38 Pb38 Gb38 hextb38 hfrb38 hokb38 hcsb38 hpsib38 => ?_)
        obtain rfl := List.mem_singleton.mp hal
        have hrb38 := zp_int (hokb38 _ rfl).1
        obtain ⟨hPeb38, hGeb38, htb38⟩ := hpsib38
        rw [hPeb38, hGeb38]
        have hvb38 := (htb38 f rfl).1 (show ((f : Nat) : Int) < G a 1 by rw [show G a 1 = (ln : Int) from g1]; omega)
        have hvb38 : rnb38 = B f := by
          rw [hB]
          refine hvb38.trans ?_
          show G (G a 0).toNat (2000 + f) = zp_n u.2.1 by_ (2000 + f)
          rw [show G a 0 = (by_ : Int) from g0, Int.toNat_natCast]
          exact g0e _
        refine zp_const (pc := 19) hx hb (zd_X7_next (19, .bipush 32, 2, 0, []) (List.mem_of_getElem? (i := 9) rfl)) rfl rfl ?_
        refine zp_icmp (pc := 21) (tgt := 37) hx hb (zd_X7_next (21, .if_icmp .ne 16, 3, 0, []) (List.mem_of_getElem? (i := 10) rfl)) rfl (fun (hc39 : ¬ rnb38 = 32) => ?_) (fun (hc39 : ¬ (¬ rnb38 = 32)) => ?_)
        · refine h37 f h0 h1 (hfr.trans (zy_r_no (fun z => ?_))) _ g1 g0 g0e g4
          have z2 := zy_bl_i.mp z.2
          rw [← hvb38] at z2
          omega
        · refine zp_load (pc := 24) hx hb (zd_X7_next (24, .aload_n 0, 1, 0, []) (List.mem_of_getElem? (i := 11) rfl)) rfl (j := 0) rfl ?_
          refine zp_dup (pc := 25) hx hb (zd_X7_next (25, .dup, 1, 0, []) (List.mem_of_getElem? (i := 12) rfl)) (show (2 : Nat) ≠ 1 by decide) ?_
          refine zp_getf (n := (f : Int)) (pc := 26) hx hb hE hw (zd_X7_next (26, .getfield 19, 3, 0, []) (List.mem_of_getElem? (i := 13) rfl)) (j := 5) rfl rfl rfl hp g4 ?_
          refine zp_const (pc := 29) hx hb (zd_X7_next (29, .iconst 1, 1, 0, []) (List.mem_of_getElem? (i := 14) rfl)) rfl rfl ?_
          refine zp_add (n := ((f : Int) + 1)) (pc := 30) hx hb (zd_X7_next (30, .iadd, 1, 0, []) (List.mem_of_getElem? (i := 15) rfl)) (by omega) (zp_r0 (by omega) (by omega)) ?_
          refine zp_putf (pc := 31) hx hb hE hw heff (zd_X7_next (31, .putfield 19, 3, 0, []) (List.mem_of_getElem? (i := 16) rfl)) (j := 5) rfl rfl rfl hp (zp_o0 (by omega) (by omega) (by omega) (by omega)) ?_
          refine zp_goto (tgt := 0) (pc := 34) hx hb (zd_X7_next (34, .goto (-34), 3, 0, []) (List.mem_of_getElem? (i := 17) rfl)) rfl ?_
          refine ih (f + 1) (by omega) (by omega) (by omega) (hfr.trans (zy_r_go (by omega) (zy_bl_i.mpr (by rw [← hvb38]; omega)))) _ ?_ ?_ ?_ ?_
          · exact ((zp_set_ne (Or.inr (by decide))).trans (g1))
          · exact ((zp_set_ne (Or.inr (by decide))).trans (g0))
          · intro j
            rw [zp_set_ne (Or.inl (zp_pne qby_ hp (by decide)))]
            exact g0e j
          · exact zp_set_self
  exact loop1 (ln + 1) q (by omega) (Nat.le_refl _) (by omega) rfl _ hln hby_ (fun _ => rfl) hq4
noncomputable def zK_rew : zk_K := (zt_mn 42, prog_9_method_5_code, 1, (Option.none : Option Jvm.ClassFile.FieldType), 1, 7, [(2, 7, 0, 0)], [(none, [])], [(7, 2, 0), (7, 3, 0), (7, 4, 0), (7, 5, 0)], (2, 60, 0, 0))
noncomputable def zψ_rew : (Nat → Option Nat) → (Nat → Nat → Int) → List Int → (Nat → Option Nat) → (Nat → Nat → Int) → Int → Prop := fun P G ps P' G' rn => P' = P ∧ zy_tc (fun j => G (G (zp_0 ps) 0).toNat (2000 + j)) (G (zp_0 ps) 1).toNat G' (zp_0 ps) 0
theorem zX_rew {l : Launch} {w : zk_W} (hW : zh_W w) : zk_metX l w zt_dv zt_TB zK_rew (zp_A zp_tA) (zp_B zψ_rew) ∧ zk_cok w zt_TB zK_rew := by
  refine zp_methX (cn := "WoundTown$Tape") zp_lkallT hW (pl := 716) rfl (by decide +kernel) (fun p e R s m args below meth c Q u hx hb hE hQ hU5 heff hnL hok hφ => ?_)
  have hw := hW.1
  obtain ⟨p0, hps, k0⟩ := zp_ps1 hok
  obtain ⟨a, rfl, hp⟩ := zp_this k0
  have hrm : zk_Kr (zk_ev (zt_types, zp_lkT, zt_dv, [], [], zp_lcT, zK_rew)) = zk_Kr zK_rew := rfl
  rw [hps] at hφ ⊢
  show zp_J p l e R s m args below meth c Q w u [] 0 [(0, 2, (a : Int))] [] u.1 (zp_n u.2.1)
  refine zp_kn (k := 1) (a := a) hw (show zp_fd 7 1 = some (7, 0, 0, 0, 400) from rfl) rfl hp (fun hkln => ?_)
  obtain ⟨ln, hln⟩ := zp_nat (zp_int hkln).1
  have hlnb := zp_int hkln
  rw [hln] at hlnb
  refine zp_kn (k := 0) (a := a) hw (show zp_fd 7 0 = some (7, 2, 29, 0, 0) from rfl) rfl hp (fun hkby_ => ?_)
  obtain ⟨by_, hby_, qby_⟩ := zp_this hkby_
  refine zp_load (pc := 0) hx hb (zd_X7_rewind (0, .aload_n 0, 1, 0, []) (List.mem_of_getElem? (i := 0) rfl)) rfl (j := 0) rfl ?_
  refine zp_const (pc := 1) hx hb (zd_X7_rewind (1, .iconst 0, 1, 0, []) (List.mem_of_getElem? (i := 1) rfl)) rfl rfl ?_
  refine zp_putf (pc := 2) hx hb hE hw heff (zd_X7_rewind (2, .putfield 19, 3, 0, []) (List.mem_of_getElem? (i := 2) rfl)) (j := 5) rfl rfl rfl hp (zp_o0 (by decide) (by decide) (by decide) (by decide)) ?_
  refine zp_load (pc := 5) hx hb (zd_X7_rewind (5, .aload_n 0, 1, 0, []) (List.mem_of_getElem? (i := 3) rfl)) rfl (j := 0) rfl ?_
  have r4 : (zp_set (zp_n u.2.1) a 4 0) a 4 = 0 := zp_set_self
  have r1 : (zp_set (zp_n u.2.1) a 4 0) a 1 = (ln : Int) := ((zp_set_ne (Or.inr (by decide))).trans (hln))
  have r0 : (zp_set (zp_n u.2.1) a 4 0) a 0 = (by_ : Int) := ((zp_set_ne (Or.inr (by decide))).trans (hby_))
  have rb : ∀ j, (zp_set (zp_n u.2.1) a 4 0) by_ j = zp_n u.2.1 by_ j := fun j => zp_set_ne (Or.inl (zp_pne qby_ hp (by decide)))
  refine zp_call (pc := 6) (how := 0) (idx := 22) (mi := 43) (S := []) hx hb hE hw heff hrm (zX_cnx hW) rfl (j := 0) rfl rfl (by decide +kernel) (zd_X7_rewind (6, .invokevirtual 22, 3, 0, []) (List.mem_of_getElem? (i := 4) rfl)) [(a : Int)] rfl ⟨zp_o2 hp, trivial⟩ (Nat.le_of_ble_eq_true rfl) ⟨0, r4, (show ((0 : Nat) : Int) ≤ (zp_set (zp_n u.2.1) a 4 0) a 1 by rw [r1]; omega)⟩ (fun al hal rnn Pn Gn hextn hfrn hokn hcsn hpsin => ?_)
  obtain rfl := List.mem_singleton.mp hal
  have yan := hextn _ _ hp
  have yby_n := hextn _ _ qby_
  obtain ⟨hPn, htn⟩ := hpsin
  have htn := htn 0 r4
  have htn : zy_tc (fun j => (zp_set (zp_n u.2.1) a 4 0) ((zp_set (zp_n u.2.1) a 4 0) a 0).toNat (2000 + j)) ((zp_set (zp_n u.2.1) a 4 0) a 1).toNat Gn a 0 := htn
  rw [r0, r1, Int.toNat_natCast, Int.toNat_natCast, show (fun j => (zp_set (zp_n u.2.1) a 4 0) by_ (2000 + j)) = (fun j => zp_n u.2.1 by_ (2000 + j)) from funext (fun j => rb _)] at htn
  subst hPn
  refine zp_vret (pc := 9) hx hb hE hQ hU5 rfl (by decide) (zd_X7_rewind (9, .return_, 1, 0, []) (List.mem_of_getElem? (i := 5) rfl)) (j := 0) rfl ?_
  rw [hps]
  refine ⟨rfl, ?_⟩
  show zy_tc (fun j => zp_n u.2.1 (zp_n u.2.1 a 0).toNat (2000 + j)) (zp_n u.2.1 a 1).toNat Gn a 0
  rw [hby_, hln, Int.toNat_natCast, Int.toNat_natCast]
  exact htn
noncomputable def zK_csi : zk_K := (zt_mn 64, prog_9_method_8_code, 2, (Option.some Jvm.ClassFile.FieldType.boolean), 1, 7, [(2, 7, 0, 0), (0, 0, 0, 65535)], [(some (0, 0, 0, 1), [])], [], (0, 0, 0, 0))
noncomputable def zψ_csi : (Nat → Option Nat) → (Nat → Nat → Int) → List Int → (Nat → Option Nat) → (Nat → Nat → Int) → Int → Prop := fun P G ps P' G' rn => P' = P ∧ G' = G ∧ (rn = 1 ↔ G (zp_0 ps) 5 = ps.getD 1 0)
theorem zX_csi {l : Launch} {w : zk_W} (hW : zh_W w) : zk_metX l w zt_dv zt_TB zK_csi (zp_A zp_tA) (zp_B zψ_csi) ∧ zk_cok w zt_TB zK_csi := by
  refine zp_methX (cn := "WoundTown$Tape") zp_lkallT hW (pl := 810) rfl (by decide +kernel) (fun p e R s m args below meth c Q u hx hb hE hQ hU5 heff hnL hok hφ => ?_)
  have hw := hW.1
  obtain ⟨p0, p1, hps, k0, k1⟩ := zp_ps2 hok
  obtain ⟨a, rfl, hp⟩ := zp_this k0
  have hrm : zk_Kr (zk_ev (zt_types, zp_lkT, zt_dv, [], [], zp_lcT, zK_csi)) = zk_Kr zK_csi := rfl
  rw [hps] at hφ ⊢
  have hi1 := zp_int k1
  show zp_J p l e R s m args below meth c Q w u [] 0 [(0, 2, (a : Int)), (1, 0, p1)] [] u.1 (zp_n u.2.1)
  refine zp_kn (k := 5) (a := a) hw (show zp_fd 7 5 = some (7, 0, 0, (-2147483648), 2147483647) from rfl) rfl hp (fun hksg => ?_)
  obtain ⟨sg, hsg⟩ : ∃ z0 : Int, (zp_n u.2.1) a 5 = z0 := ⟨_, rfl⟩
  have hsgb := zp_int hksg
  rw [hsg] at hsgb
  refine zp_load (pc := 0) hx hb (zd_X7_isSign (0, .aload_n 0, 1, 0, []) (List.mem_of_getElem? (i := 0) rfl)) rfl (j := 0) rfl ?_
  refine zp_getf (n := sg) (pc := 1) hx hb hE hw (zd_X7_isSign (1, .getfield 32, 3, 0, []) (List.mem_of_getElem? (i := 1) rfl)) (j := 6) rfl rfl rfl hp hsg ?_
  refine zp_load (pc := 4) hx hb (zd_X7_isSign (4, .iload_n 1, 1, 0, []) (List.mem_of_getElem? (i := 2) rfl)) rfl (j := 1) rfl ?_
  refine zp_icmp (pc := 5) (tgt := 12) hx hb (zd_X7_isSign (5, .if_icmp .ne 7, 3, 0, []) (List.mem_of_getElem? (i := 3) rfl)) rfl (fun (hc40 : ¬ sg = p1) => ?_) (fun (hc40 : ¬ (¬ sg = p1)) => ?_)
  · refine zp_const (pc := 12) hx hb (zd_X7_isSign (12, .iconst 0, 1, 0, []) (List.mem_of_getElem? (i := 6) rfl)) rfl rfl ?_
    refine zp_zret (pc := 13) (n := 0) hx hb hE hQ hU5 rfl (by decide) (zd_X7_isSign (13, .ireturn, 1, 0, []) (List.mem_of_getElem? (i := 7) rfl)) (j := 0) rfl (zp_o0 (by omega) (by omega) (by omega) (by omega)) ?_
    rw [hps]
    refine ⟨rfl, rfl, ?_⟩
    show (0 = 1 ↔ zp_n u.2.1 a 5 = p1)
    rw [hsg]
    omega
  · refine zp_const (pc := 8) hx hb (zd_X7_isSign (8, .iconst 1, 1, 0, []) (List.mem_of_getElem? (i := 4) rfl)) rfl rfl ?_
    refine zp_goto (tgt := 13) (pc := 9) hx hb (zd_X7_isSign (9, .goto 4, 3, 0, []) (List.mem_of_getElem? (i := 5) rfl)) rfl ?_
    refine zp_zret (pc := 13) (n := 1) hx hb hE hQ hU5 rfl (by decide) (zd_X7_isSign (13, .ireturn, 1, 0, []) (List.mem_of_getElem? (i := 7) rfl)) (j := 0) rfl (zp_o0 (by omega) (by omega) (by omega) (by omega)) ?_
    rw [hps]
    refine ⟨rfl, rfl, ?_⟩
    show (1 = 1 ↔ zp_n u.2.1 a 5 = p1)
    rw [hsg]
    omega
