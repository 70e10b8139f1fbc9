/-! part b1: the tape, its tokens (class) -/
def zy_kd (c : Int) : Int := if zy_sm c = true then 1 else if zy_dg c = true then 2 else 3
theorem zy_sm_i {c : Int} : zy_sm c = true ↔ 97 ≤ c ∧ c ≤ 122 := by
  unfold zy_sm
  rw [Bool.and_eq_true, decide_eq_true_eq, decide_eq_true_eq]
theorem zy_dg_i {c : Int} : zy_dg c = true ↔ 48 ≤ c ∧ c ≤ 57 := by
  unfold zy_dg
  rw [Bool.and_eq_true, decide_eq_true_eq, decide_eq_true_eq]
theorem zy_bl_i {c : Int} : zy_bl c = true ↔ c = 32 := by
  unfold zy_bl
  rw [decide_eq_true_eq]
/-- a token is looked at: the class's tape -/
def zy_tc (B : Nat → Int) (len : Nat) (G : Nat → Nat → Int) (a p : Nat) : Prop := p ≤ len ∧ G a 2 = (zy_so B len p : Int) ∧ G a 3 = (zy_fr B len p : Int) ∧ G a 4 = (zy_to B len p : Int) ∧ G a 5 = if zy_so B len p = 3 then B (zy_fr B len p) else -1
theorem zy_so_in {B : Nat → Int} {len p : Nat} (h : zy_fr B len p < len) : (zy_so B len p : Int) = zy_kd (B (zy_fr B len p)) := by
  unfold zy_so zy_kd
  rw [if_pos h]
  repeat' split
  all_goals rfl
theorem zy_so_out {B : Nat → Int} {len p : Nat} (h : ¬ zy_fr B len p < len) : zy_so B len p = 0 := by
  unfold zy_so
  rw [if_neg h]
theorem zy_to_0 {B : Nat → Int} {len p : Nat} (h : zy_so B len p = 0) : zy_to B len p = zy_fr B len p := by
  unfold zy_to
  rw [if_neg (by omega), if_neg (by omega), if_neg (by omega)]
theorem zy_to_1 {B : Nat → Int} {len p : Nat} (h : zy_so B len p = 1) : zy_to B len p = zy_r zy_sm B len (zy_fr B len p) := by
  unfold zy_to
  rw [if_pos h]
theorem zy_to_2 {B : Nat → Int} {len p : Nat} (h : zy_so B len p = 2) : zy_to B len p = zy_r zy_dg B len (zy_fr B len p) := by
  unfold zy_to
  rw [if_neg (by omega), if_pos h]
theorem zy_to_3 {B : Nat → Int} {len p : Nat} (h : zy_so B len p = 3) : zy_to B len p = zy_fr B len p + 1 := by
  unfold zy_to
  rw [if_neg (by omega), if_neg (by omega), if_pos h]
/-- on within a token of kind k -/
def zy_kr (k : Int) (B : Nat → Int) (len p : Nat) : Nat := if k = 1 then zy_r zy_sm B len p else zy_r zy_dg B len p
theorem zy_kr_go {k : Int} {B : Nat → Int} {len p : Nat} (hk : k = 1 ∨ k = 2) (h : p < len) (hf : zy_kd (B p) = k) : zy_kr k B len p = zy_kr k B len (p + 1) := by
  sorry
theorem zy_kr_no {k : Int} {B : Nat → Int} {len p : Nat} (hk : k = 1 ∨ k = 2) (h : ¬ (p < len ∧ zy_kd (B p) = k)) : zy_kr k B len p = p := by
  sorry
def zK_kof : zk_K := (zt_mn 44, prog_9_method_7_code, 1, (Option.some Jvm.ClassFile.FieldType.int), 0, 7, [(0, 0, (-2147483648), 2147483647)], [(some (0, 0, 1, 3), [])], [], (0, 0, 0, 0))
def zψ_kof : (Nat → Option Nat) → (Nat → Nat → Int) → List Int → (Nat → Option Nat) → (Nat → Nat → Int) → Int → Prop := fun P G ps P' G' rn => P' = P ∧ G' = G ∧ rn = zy_kd (ps.getD 0 0)
theorem zX_kof {l : Launch} {w : zk_W} (hW : zh_W w) : zk_metX l w zt_dv zt_TB zK_kof (zp_A zp_tA) (zp_B zψ_kof) ∧ zk_cok w zt_TB zK_kof := by
  sorry
def zK_cnx : zk_K := (zt_mn 43, prog_9_method_6_code, 1, (Option.none : Option Jvm.ClassFile.FieldType), 1, 7, [(2, 7, 0, 0)], [(none, [])], [(7, 2, 0), (7, 3, 0), (7, 4, 0), (7, 5, 0)], (1, 25, 0, 0))
def zφ_cnx : (Nat → Option Nat) → (Nat → Nat → Int) → List Int → Prop := fun _ G ps => ∃ q : Nat, G (zp_0 ps) 4 = (q : Int) ∧ (q : Int) ≤ G (zp_0 ps) 1
def zψ_cnx : (Nat → Option Nat) → (Nat → Nat → Int) → List Int → (Nat → Option Nat) → (Nat → Nat → Int) → Int → Prop := fun P G ps P' G' rn => P' = P ∧ ∀ q : Nat, G (zp_0 ps) 4 = (q : Int) → zy_tc (fun j => G (G (zp_0 ps) 0).toNat (2000 + j)) (G (zp_0 ps) 1).toNat G' (zp_0 ps) q
theorem zX_cnx {l : Launch} {w : zk_W} (hW : zh_W w) : zk_metX l w zt_dv zt_TB zK_cnx (zp_A zφ_cnx) (zp_B zψ_cnx) ∧ zk_cok w zt_TB zK_cnx := by
  sorry
def zK_rew : zk_K := (zt_mn 42, prog_9_method_5_code, 1, (Option.none : Option Jvm.ClassFile.FieldType), 1, 7, [(2, 7, 0, 0)], [(none, [])], [(7, 2, 0), (7, 3, 0), (7, 4, 0), (7, 5, 0)], (2, 60, 0, 0))
def zψ_rew : (Nat → Option Nat) → (Nat → Nat → Int) → List Int → (Nat → Option Nat) → (Nat → Nat → Int) → Int → Prop := fun P G ps P' G' rn => P' = P ∧ zy_tc (fun j => G (G (zp_0 ps) 0).toNat (2000 + j)) (G (zp_0 ps) 1).toNat G' (zp_0 ps) 0
theorem zX_rew {l : Launch} {w : zk_W} (hW : zh_W w) : zk_metX l w zt_dv zt_TB zK_rew (zp_A zp_tA) (zp_B zψ_rew) ∧ zk_cok w zt_TB zK_rew := by
  sorry
def zK_csi : zk_K := (zt_mn 64, prog_9_method_8_code, 2, (Option.some Jvm.ClassFile.FieldType.boolean), 1, 7, [(2, 7, 0, 0), (0, 0, 0, 65535)], [(some (0, 0, 0, 1), [])], [], (0, 0, 0, 0))
def zψ_csi : (Nat → Option Nat) → (Nat → Nat → Int) → List Int → (Nat → Option Nat) → (Nat → Nat → Int) → Int → Prop := fun P G ps P' G' rn => P' = P ∧ G' = G ∧ (rn = 1 ↔ G (zp_0 ps) 5 = ps.getD 1 0)
theorem zX_csi {l : Launch} {w : zk_W} (hW : zh_W w) : zk_metX l w zt_dv zt_TB zK_csi (zp_A zp_tA) (zp_B zψ_csi) ∧ zk_cok w zt_TB zK_csi := by
  sorry