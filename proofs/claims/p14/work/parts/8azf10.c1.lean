/-! part c1: longs exactly; tokens -/
/-- what is not to be looked into -/
noncomputable def zHid (p : Prop) : Prop := p
section ZDC1
variable {p : Program} {l : Launch} {e : Env} {R : Room} {s : State} {m : MethodId} {args : Array Value} {below : List Frame} {meth : Method} {c : Code} {Q : State → Prop}
variable {cc : ByteArray} {w : zk_W} {u : zk_M} {Ts : List Jvm.Cond} {own : String}
variable {xs : List Nat} {pc : Nat} {L : List (Nat × Nat × Int)} {S : List (Nat × Int)} {P : Nat → Option Nat} {G : Nat → Nat → Int}
theorem zDo_ladd (hx : p.tables.exec = Jvm.exec) (hb : c.code = cc) {a b n : Int} (hdg : decode cc pc = .ok (.ladd, 1)) (hn : a + b = n) (hr : zk_rg 1 n) (kk : zp_J p l e R s m args below meth c Q w u xs (pc + 1) L ((1, n) :: S) P G) : zp_J p l e R s m args below meth c Q w u xs pc L ((1, b) :: (1, a) :: S) P G := by
  subst hn
  intro F H locs ls hF hI hL hkL hkS
  refine zw_lbin (o := 0) hx hb rfl hdg (fun h => absurd h (by decide)) ?_
  have e : zk_lb 0 (Int64.ofInt a) (Int64.ofInt b) = Int64.ofInt (a + b) := by show Int64.ofInt a + Int64.ofInt b = _; rw [← Int64.ofInt_add]
  rw [e]
  exact kk F H locs ls hF hI hL hkL (List.forall_mem_cons.mpr ⟨zp_k1 hr, (zp_tl (zp_tl hkS).2).2⟩)
theorem zDo_lsub (hx : p.tables.exec = Jvm.exec) (hb : c.code = cc) {a b n : Int} (hdg : decode cc pc = .ok (.lsub, 1)) (hn : a - b = n) (hr : zk_rg 1 n) (kk : zp_J p l e R s m args below meth c Q w u xs (pc + 1) L ((1, n) :: S) P G) : zp_J p l e R s m args below meth c Q w u xs pc L ((1, b) :: (1, a) :: S) P G := by
  subst hn
  intro F H locs ls hF hI hL hkL hkS
  refine zw_lbin (o := 1) hx hb rfl hdg (fun h => absurd h (by decide)) ?_
  have e : zk_lb 1 (Int64.ofInt a) (Int64.ofInt b) = Int64.ofInt (a - b) := by show Int64.ofInt a - Int64.ofInt b = _; rw [← Int64.ofInt_sub]
  rw [e]
  exact kk F H locs ls hF hI hL hkL (List.forall_mem_cons.mpr ⟨zp_k1 hr, (zp_tl (zp_tl hkS).2).2⟩)
theorem zDo_lmul (hx : p.tables.exec = Jvm.exec) (hb : c.code = cc) {a b n : Int} (hdg : decode cc pc = .ok (.lmul, 1)) (hn : a * b = n) (hr : zk_rg 1 n) (kk : zp_J p l e R s m args below meth c Q w u xs (pc + 1) L ((1, n) :: S) P G) : zp_J p l e R s m args below meth c Q w u xs pc L ((1, b) :: (1, a) :: S) P G := by
  subst hn
  intro F H locs ls hF hI hL hkL hkS
  refine zw_lbin (o := 2) hx hb rfl hdg (fun h => absurd h (by decide)) ?_
  have e : zk_lb 2 (Int64.ofInt a) (Int64.ofInt b) = Int64.ofInt (a * b) := by show Int64.ofInt a * Int64.ofInt b = _; rw [← Int64.ofInt_mul]
  rw [e]
  exact kk F H locs ls hF hI hL hkL (List.forall_mem_cons.mpr ⟨zp_k1 hr, (zp_tl (zp_tl hkS).2).2⟩)
end ZDC1
theorem zDt_sm {c : Int} : zy_sm c = true ↔ 97 ≤ c ∧ c ≤ 122 := by
  unfold zy_sm
  rw [Bool.and_eq_true, decide_eq_true_eq, decide_eq_true_eq]
theorem zDt_dg {c : Int} : zy_dg c = true ↔ 48 ≤ c ∧ c ≤ 57 := by
  unfold zy_dg
  rw [Bool.and_eq_true, decide_eq_true_eq, decide_eq_true_eq]
theorem zDt_bl {c : Int} : zy_bl c = true ↔ c = 32 := by
  unfold zy_bl
  rw [decide_eq_true_eq]
theorem zDt_0 {B : Nat → Int} {ln p : Nat} (h : ¬ zy_fr B ln p < ln) : zy_so B ln p = 0 ∧ zy_to B ln p = zy_fr B ln p ∧ zy_wo B ln p = 0 := by
  have e : zy_so B ln p = 0 := by
    unfold zy_so
    rw [if_neg h]
  refine ⟨e, ?_, ?_⟩
  · unfold zy_to
    rw [if_neg (by omega), if_neg (by omega), if_neg (by omega)]
  · unfold zy_wo
    rw [if_neg (by omega), if_neg (by omega), if_neg (by omega)]
theorem zDt_1 {B : Nat → Int} {ln p : Nat} (h : zy_fr B ln p < ln) (hc : 97 ≤ B (zy_fr B ln p) ∧ B (zy_fr B ln p) ≤ 122) : zy_so B ln p = 1 ∧ zy_to B ln p = zy_r zy_sm B ln (zy_fr B ln p) ∧ zy_wo B ln p = zy_ww B (zy_fr B ln p) (zy_to B ln p - zy_fr B ln p) := by
  have e : zy_so B ln p = 1 := by
    unfold zy_so
    rw [if_pos h, if_pos (zDt_sm.mpr hc)]
  refine ⟨e, ?_, ?_⟩
  · unfold zy_to
    rw [if_pos e]
  · unfold zy_wo
    rw [if_pos e]
theorem zDt_2 {B : Nat → Int} {ln p : Nat} (h : zy_fr B ln p < ln) (hc : 48 ≤ B (zy_fr B ln p) ∧ B (zy_fr B ln p) ≤ 57) : zy_so B ln p = 2 ∧ zy_to B ln p = zy_r zy_dg B ln (zy_fr B ln p) ∧ zy_wo B ln p = zy_dw B (zy_fr B ln p) (zy_to B ln p - zy_fr B ln p) := by
  have e : zy_so B ln p = 2 := by
    unfold zy_so
    rw [if_pos h, if_neg (fun z => by have := zDt_sm.mp z; omega), if_pos (zDt_dg.mpr hc)]
  refine ⟨e, ?_, ?_⟩
  · unfold zy_to
    rw [if_neg (by omega), if_pos e]
  · unfold zy_wo
    rw [if_neg (by omega), if_pos e]
theorem zDt_3 {B : Nat → Int} {ln p : Nat} (h : zy_fr B ln p < ln) (hc : ¬ (97 ≤ B (zy_fr B ln p) ∧ B (zy_fr B ln p) ≤ 122)) (hd : ¬ (48 ≤ B (zy_fr B ln p) ∧ B (zy_fr B ln p) ≤ 57)) : zy_so B ln p = 3 ∧ zy_to B ln p = zy_fr B ln p + 1 ∧ zy_wo B ln p = B (zy_fr B ln p) := by
  have e : zy_so B ln p = 3 := by
    unfold zy_so
    rw [if_pos h, if_neg (fun z => hc (zDt_sm.mp z)), if_neg (fun z => hd (zDt_dg.mp z))]
  refine ⟨e, ?_, ?_⟩
  · unfold zy_to
    rw [if_neg (by omega), if_neg (by omega), if_pos e]
  · unfold zy_wo
    rw [if_neg (by omega), if_neg (by omega), if_pos e]
/-- a word's number isn't great as long as it is short -/
noncomputable def ymb : Nat → Int
  | 0 => 0
  | k + 1 => 32 * ymb k + 200
theorem ymb_0 : ∀ k, 0 ≤ ymb k
  | 0 => Int.le_refl 0
  | k + 1 => by
    have := ymb_0 k
    show 0 ≤ 32 * ymb k + 200
    omega
theorem ymb_9 : ∀ k, k < 10 → ymb k ≤ 250000000000000 := by decide
theorem zy_ww_b {B : Nat → Int} {q : Nat} (hB : ∀ j, 0 ≤ B j ∧ B j ≤ 255) : ∀ k, -(ymb k) - 1 ≤ zy_ww B q k ∧ zy_ww B q k ≤ ymb k + 1
  | 0 => ⟨by show -(0 : Int) - 1 ≤ 0; decide, by show (0 : Int) ≤ 0 + 1; decide⟩
  | k + 1 => by
    have ih := zy_ww_b (q := q) hB k
    have h0 := ymb_0 k
    have hb := hB (q + k)
    show -(32 * ymb k + 200) - 1 ≤ (if k < 10 then zy_ww B q k * 32 + B (q + k) - 96 else -1) ∧ (if k < 10 then zy_ww B q k * 32 + B (q + k) - 96 else -1) ≤ 32 * ymb k + 200 + 1
    split
    · omega
    · omega
