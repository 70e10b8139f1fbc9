/-! part d1: the class's tape: words, numbers -/
def zp_lkT9 : List zk_L := zp_lkT
def zp_lcT9 : List (Nat × Nat × Nat) := [(0, 22, 43), (0, 25, 37), (1, 38, 44), (0, 45, 47), (0, 50, 49), (4, 60, 15), (0, 41, 46)]
theorem zp_lkallT9 : (zp_lkT9.all (zt_lkin "WoundTown$Tape") && zp_lcT9.all (zt_lcin "WoundTown$Tape")) = true := by decide +kernel
theorem zTt_len {t b : Nat} {G : Nat → Nat → Int} {B : Nat → Int} {ln tk : Nat} (h : zTt t b G B ln tk) : zy_fr B ln tk ≤ zy_to B ln tk ∧ zy_to B ln tk ≤ ln ∧ ln ≤ 400 := ⟨(zy_to_le h.2.2.1).1, (zy_to_le h.2.2.1).2.1, h.1.2.2.1⟩
theorem zs_ix_le {S : Nat → Int} : ∀ k, zs_ix S k ≤ k
  | 0 => Nat.le_refl 0
  | k + 1 => by
    have ih := zs_ix_le (S := S) k
    show (if S k = 32 then zs_ix S k + 1 else zs_ix S k) ≤ k + 1
    split <;> omega
/-- the bytes as they are asked for: none behind the end -/
def zBc (B : Nat → Int) (ln : Nat) : Nat → Int := fun j => if j < ln then B j else -1
theorem zBc_ww {B : Nat → Int} {ln f : Nat} : ∀ m, f + m ≤ ln → zy_ww (zBc B ln) f m = zy_ww B f m
  | 0, _ => rfl
  | m + 1, h => by
    have ih := zBc_ww (B := B) (ln := ln) (f := f) m (by omega)
    have e : zBc B ln (f + m) = B (f + m) := if_pos (by omega)
    show (if m < 10 then zy_ww (zBc B ln) f m * 32 + zBc B ln (f + m) - 96 else -1) = (if m < 10 then zy_ww B f m * 32 + B (f + m) - 96 else -1)
    rw [ih, e]
/-- a word's letters -/
theorem zBc_let {t b : Nat} {G : Nat → Nat → Int} {B : Nat → Int} {ln tk : Nat} (h : zTt t b G B ln tk) (hs : zy_so B ln tk = 1) : (∀ i, i < zy_to B ln tk - zy_fr B ln tk → 97 ≤ zBc B ln (zy_fr B ln tk + i) ∧ zBc B ln (zy_fr B ln tk + i) ≤ 122) ∧ zy_ww (zBc B ln) (zy_fr B ln tk) (zy_to B ln tk - zy_fr B ln tk) = zy_wo B ln tk := by
  have hl := zTt_len h
  constructor
  · intro i hi
    have e : zBc B ln (zy_fr B ln tk + i) = B (zy_fr B ln tk + i) := if_pos (by omega)
    rw [e]
    exact zy_sm_i.mp (zy_r_all (len := ln) (p := zy_fr B ln tk) (by omega) (by rw [← zy_to_1 hs]; omega))
  · rw [zBc_ww _ (by omega)]
    unfold zy_wo
    rw [if_pos hs]
def zK_vwlc : zk_K := (zt_mn 46, prog_9_method_10_code, 6, (Option.some Jvm.ClassFile.FieldType.int), 1, 7, [(2, 7, 0, 0), (2, 209, 0, 0)], [(some (0, 0, (-1), 400), [])], [], (9, 221, 0, 0))
def zφ_vwlc (b : Nat) (B : Nat → Int) (ln tk : Nat) : (Nat → Option Nat) → (Nat → Nat → Int) → List Int → Prop := fun P G ps => zTt (zp_0 ps) b G B ln tk
def zψ_vwlc (b : Nat) (B : Nat → Int) (ln tk : Nat) : (Nat → Option Nat) → (Nat → Nat → Int) → List Int → (Nat → Option Nat) → (Nat → Nat → Int) → Int → Prop := fun P G ps P' G' rn => P' = P ∧ G' = G ∧ rn = if zy_so B ln tk = 1 then zs_g za_lc 28 (zBc B ln) (zy_fr B ln tk) ((zy_to B ln tk - zy_fr B ln tk : Nat) : Int) 0 else -1
theorem zX_vwlc {l : Launch} {w : zk_W} (hW : zh_W w) (b : Nat) (B : Nat → Int) (ln tk : Nat) : zk_metX l w zt_dv zt_TB zK_vwlc (zp_A (zφ_vwlc b B ln tk)) (zp_B (zψ_vwlc b B ln tk)) ∧ zk_cok w zt_TB zK_vwlc := by
  sorry
def zK_vwlw : zk_K := (zt_mn 46, prog_9_method_10_code, 6, (Option.some Jvm.ClassFile.FieldType.int), 1, 7, [(2, 7, 0, 0), (2, 202, 0, 0)], [(some (0, 0, (-1), 400), [])], [], (9, 221, 0, 0))
def zφ_vwlw (b : Nat) (B : Nat → Int) (ln tk : Nat) : (Nat → Option Nat) → (Nat → Nat → Int) → List Int → Prop := fun P G ps => zTt (zp_0 ps) b G B ln tk
def zψ_vwlw (b : Nat) (B : Nat → Int) (ln tk : Nat) : (Nat → Option Nat) → (Nat → Nat → Int) → List Int → (Nat → Option Nat) → (Nat → Nat → Int) → Int → Prop := fun P G ps P' G' rn => P' = P ∧ G' = G ∧ rn = if zy_so B ln tk = 1 then zs_g za_lw 48 (zBc B ln) (zy_fr B ln tk) ((zy_to B ln tk - zy_fr B ln tk : Nat) : Int) 0 else -1
theorem zX_vwlw {l : Launch} {w : zk_W} (hW : zh_W w) (b : Nat) (B : Nat → Int) (ln tk : Nat) : zk_metX l w zt_dv zt_TB zK_vwlw (zp_A (zφ_vwlw b B ln tk)) (zp_B (zψ_vwlw b B ln tk)) ∧ zk_cok w zt_TB zK_vwlw := by
  sorry
def zK_vwoc : zk_K := (zt_mn 46, prog_9_method_10_code, 6, (Option.some Jvm.ClassFile.FieldType.int), 1, 7, [(2, 7, 0, 0), (2, 200, 0, 0)], [(some (0, 0, (-1), 400), [])], [], (9, 221, 0, 0))
def zφ_vwoc (b : Nat) (B : Nat → Int) (ln tk : Nat) : (Nat → Option Nat) → (Nat → Nat → Int) → List Int → Prop := fun P G ps => zTt (zp_0 ps) b G B ln tk
def zψ_vwoc (b : Nat) (B : Nat → Int) (ln tk : Nat) : (Nat → Option Nat) → (Nat → Nat → Int) → List Int → (Nat → Option Nat) → (Nat → Nat → Int) → Int → Prop := fun P G ps P' G' rn => P' = P ∧ G' = G ∧ rn = if zy_so B ln tk = 1 then zs_g za_oc 17 (zBc B ln) (zy_fr B ln tk) ((zy_to B ln tk - zy_fr B ln tk : Nat) : Int) 0 else -1
theorem zX_vwoc {l : Launch} {w : zk_W} (hW : zh_W w) (b : Nat) (B : Nat → Int) (ln tk : Nat) : zk_metX l w zt_dv zt_TB zK_vwoc (zp_A (zφ_vwoc b B ln tk)) (zp_B (zψ_vwoc b B ln tk)) ∧ zk_cok w zt_TB zK_vwoc := by
  sorry
def zK_vwow : zk_K := (zt_mn 46, prog_9_method_10_code, 6, (Option.some Jvm.ClassFile.FieldType.int), 1, 7, [(2, 7, 0, 0), (2, 201, 0, 0)], [(some (0, 0, (-1), 400), [])], [], (9, 221, 0, 0))
def zφ_vwow (b : Nat) (B : Nat → Int) (ln tk : Nat) : (Nat → Option Nat) → (Nat → Nat → Int) → List Int → Prop := fun P G ps => zTt (zp_0 ps) b G B ln tk
def zψ_vwow (b : Nat) (B : Nat → Int) (ln tk : Nat) : (Nat → Option Nat) → (Nat → Nat → Int) → List Int → (Nat → Option Nat) → (Nat → Nat → Int) → Int → Prop := fun P G ps P' G' rn => P' = P ∧ G' = G ∧ rn = if zy_so B ln tk = 1 then zs_g za_ow 37 (zBc B ln) (zy_fr B ln tk) ((zy_to B ln tk - zy_fr B ln tk : Nat) : Int) 0 else -1
theorem zX_vwow {l : Launch} {w : zk_W} (hW : zh_W w) (b : Nat) (B : Nat → Int) (ln tk : Nat) : zk_metX l w zt_dv zt_TB zK_vwow (zp_A (zφ_vwow b B ln tk)) (zp_B (zψ_vwow b B ln tk)) ∧ zk_cok w zt_TB zK_vwow := by
  sorry
def zK_vwby : zk_K := (zt_mn 46, prog_9_method_10_code, 6, (Option.some Jvm.ClassFile.FieldType.int), 1, 7, [(2, 7, 0, 0), (2, 203, 0, 0)], [(some (0, 0, (-1), 400), [])], [], (9, 221, 0, 0))
def zφ_vwby (b : Nat) (B : Nat → Int) (ln tk : Nat) : (Nat → Option Nat) → (Nat → Nat → Int) → List Int → Prop := fun P G ps => zTt (zp_0 ps) b G B ln tk
def zψ_vwby (b : Nat) (B : Nat → Int) (ln tk : Nat) : (Nat → Option Nat) → (Nat → Nat → Int) → List Int → (Nat → Option Nat) → (Nat → Nat → Int) → Int → Prop := fun P G ps P' G' rn => P' = P ∧ G' = G ∧ rn = if zy_so B ln tk = 1 then zs_g za_by 2 (zBc B ln) (zy_fr B ln tk) ((zy_to B ln tk - zy_fr B ln tk : Nat) : Int) 0 else -1
theorem zX_vwby {l : Launch} {w : zk_W} (hW : zh_W w) (b : Nat) (B : Nat → Int) (ln tk : Nat) : zk_metX l w zt_dv zt_TB zK_vwby (zp_A (zφ_vwby b B ln tk)) (zp_B (zψ_vwby b B ln tk)) ∧ zk_cok w zt_TB zK_vwby := by
  sorry
def zK_vwti : zk_K := (zt_mn 46, prog_9_method_10_code, 6, (Option.some Jvm.ClassFile.FieldType.int), 1, 7, [(2, 7, 0, 0), (2, 204, 0, 0)], [(some (0, 0, (-1), 400), [])], [], (9, 221, 0, 0))
def zφ_vwti (b : Nat) (B : Nat → Int) (ln tk : Nat) : (Nat → Option Nat) → (Nat → Nat → Int) → List Int → Prop := fun P G ps => zTt (zp_0 ps) b G B ln tk
def zψ_vwti (b : Nat) (B : Nat → Int) (ln tk : Nat) : (Nat → Option Nat) → (Nat → Nat → Int) → List Int → (Nat → Option Nat) → (Nat → Nat → Int) → Int → Prop := fun P G ps P' G' rn => P' = P ∧ G' = G ∧ rn = if zy_so B ln tk = 1 then zs_g za_ti 5 (zBc B ln) (zy_fr B ln tk) ((zy_to B ln tk - zy_fr B ln tk : Nat) : Int) 0 else -1
theorem zX_vwti {l : Launch} {w : zk_W} (hW : zh_W w) (b : Nat) (B : Nat → Int) (ln tk : Nat) : zk_metX l w zt_dv zt_TB zK_vwti (zp_A (zφ_vwti b B ln tk)) (zp_B (zψ_vwti b B ln tk)) ∧ zk_cok w zt_TB zK_vwti := by
  sorry
def zK_vwif : zk_K := (zt_mn 46, prog_9_method_10_code, 6, (Option.some Jvm.ClassFile.FieldType.int), 1, 7, [(2, 7, 0, 0), (2, 205, 0, 0)], [(some (0, 0, (-1), 400), [])], [], (9, 221, 0, 0))
def zφ_vwif (b : Nat) (B : Nat → Int) (ln tk : Nat) : (Nat → Option Nat) → (Nat → Nat → Int) → List Int → Prop := fun P G ps => zTt (zp_0 ps) b G B ln tk
def zψ_vwif (b : Nat) (B : Nat → Int) (ln tk : Nat) : (Nat → Option Nat) → (Nat → Nat → Int) → List Int → (Nat → Option Nat) → (Nat → Nat → Int) → Int → Prop := fun P G ps P' G' rn => P' = P ∧ G' = G ∧ rn = if zy_so B ln tk = 1 then zs_g za_if 2 (zBc B ln) (zy_fr B ln tk) ((zy_to B ln tk - zy_fr B ln tk : Nat) : Int) 0 else -1
theorem zX_vwif {l : Launch} {w : zk_W} (hW : zh_W w) (b : Nat) (B : Nat → Int) (ln tk : Nat) : zk_metX l w zt_dv zt_TB zK_vwif (zp_A (zφ_vwif b B ln tk)) (zp_B (zψ_vwif b B ln tk)) ∧ zk_cok w zt_TB zK_vwif := by
  sorry
def zK_vwno : zk_K := (zt_mn 46, prog_9_method_10_code, 6, (Option.some Jvm.ClassFile.FieldType.int), 1, 7, [(2, 7, 0, 0), (2, 206, 0, 0)], [(some (0, 0, (-1), 400), [])], [], (9, 221, 0, 0))
def zφ_vwno (b : Nat) (B : Nat → Int) (ln tk : Nat) : (Nat → Option Nat) → (Nat → Nat → Int) → List Int → Prop := fun P G ps => zTt (zp_0 ps) b G B ln tk
def zψ_vwno (b : Nat) (B : Nat → Int) (ln tk : Nat) : (Nat → Option Nat) → (Nat → Nat → Int) → List Int → (Nat → Option Nat) → (Nat → Nat → Int) → Int → Prop := fun P G ps P' G' rn => P' = P ∧ G' = G ∧ rn = if zy_so B ln tk = 1 then zs_g za_no 3 (zBc B ln) (zy_fr B ln tk) ((zy_to B ln tk - zy_fr B ln tk : Nat) : Int) 0 else -1
theorem zX_vwno {l : Launch} {w : zk_W} (hW : zh_W w) (b : Nat) (B : Nat → Int) (ln tk : Nat) : zk_metX l w zt_dv zt_TB zK_vwno (zp_A (zφ_vwno b B ln tk)) (zp_B (zψ_vwno b B ln tk)) ∧ zk_cok w zt_TB zK_vwno := by
  sorry
def zK_vwan : zk_K := (zt_mn 46, prog_9_method_10_code, 6, (Option.some Jvm.ClassFile.FieldType.int), 1, 7, [(2, 7, 0, 0), (2, 207, 0, 0)], [(some (0, 0, (-1), 400), [])], [], (9, 221, 0, 0))
def zφ_vwan (b : Nat) (B : Nat → Int) (ln tk : Nat) : (Nat → Option Nat) → (Nat → Nat → Int) → List Int → Prop := fun P G ps => zTt (zp_0 ps) b G B ln tk
def zψ_vwan (b : Nat) (B : Nat → Int) (ln tk : Nat) : (Nat → Option Nat) → (Nat → Nat → Int) → List Int → (Nat → Option Nat) → (Nat → Nat → Int) → Int → Prop := fun P G ps P' G' rn => P' = P ∧ G' = G ∧ rn = if zy_so B ln tk = 1 then zs_g za_an 3 (zBc B ln) (zy_fr B ln tk) ((zy_to B ln tk - zy_fr B ln tk : Nat) : Int) 0 else -1
theorem zX_vwan {l : Launch} {w : zk_W} (hW : zh_W w) (b : Nat) (B : Nat → Int) (ln tk : Nat) : zk_metX l w zt_dv zt_TB zK_vwan (zp_A (zφ_vwan b B ln tk)) (zp_B (zψ_vwan b B ln tk)) ∧ zk_cok w zt_TB zK_vwan := by
  sorry
def zK_vwor : zk_K := (zt_mn 46, prog_9_method_10_code, 6, (Option.some Jvm.ClassFile.FieldType.int), 1, 7, [(2, 7, 0, 0), (2, 208, 0, 0)], [(some (0, 0, (-1), 400), [])], [], (9, 221, 0, 0))
def zφ_vwor (b : Nat) (B : Nat → Int) (ln tk : Nat) : (Nat → Option Nat) → (Nat → Nat → Int) → List Int → Prop := fun P G ps => zTt (zp_0 ps) b G B ln tk
def zψ_vwor (b : Nat) (B : Nat → Int) (ln tk : Nat) : (Nat → Option Nat) → (Nat → Nat → Int) → List Int → (Nat → Option Nat) → (Nat → Nat → Int) → Int → Prop := fun P G ps P' G' rn => P' = P ∧ G' = G ∧ rn = if zy_so B ln tk = 1 then zs_g za_or 2 (zBc B ln) (zy_fr B ln tk) ((zy_to B ln tk - zy_fr B ln tk : Nat) : Int) 0 else -1
theorem zX_vwor {l : Launch} {w : zk_W} (hW : zh_W w) (b : Nat) (B : Nat → Int) (ln tk : Nat) : zk_metX l w zt_dv zt_TB zK_vwor (zp_A (zφ_vwor b B ln tk)) (zp_B (zψ_vwor b B ln tk)) ∧ zk_cok w zt_TB zK_vwor := by
  sorry
theorem zv_lc {B : Nat → Int} {ln tk t b : Nat} {G : Nat → Nat → Int} {rn : Int} (h : zTt t b G B ln tk) (hr : rn = if zy_so B ln tk = 1 then zs_g za_lc 28 (zBc B ln) (zy_fr B ln tk) ((zy_to B ln tk - zy_fr B ln tk : Nat) : Int) 0 else -1) : rn = if zy_so B ln tk = 1 then ych ywh 0 (zy_wo B ln tk) else -1 := by
  rw [hr]
  by_cases hs : zy_so B ln tk = 1
  · obtain ⟨h1, h2⟩ := zBc_let h hs
    rw [if_pos hs, if_pos hs, zaw_lc h1, h2]
    rfl
  · rw [if_neg hs, if_neg hs]
theorem zv_lw {B : Nat → Int} {ln tk t b : Nat} {G : Nat → Nat → Int} {rn : Int} (h : zTt t b G B ln tk) (hr : rn = if zy_so B ln tk = 1 then zs_g za_lw 48 (zBc B ln) (zy_fr B ln tk) ((zy_to B ln tk - zy_fr B ln tk : Nat) : Int) 0 else -1) : rn = if zy_so B ln tk = 1 then ych ywd 0 (zy_wo B ln tk) else -1 := by
  rw [hr]
  by_cases hs : zy_so B ln tk = 1
  · obtain ⟨h1, h2⟩ := zBc_let h hs
    rw [if_pos hs, if_pos hs, zaw_lw h1, h2]
    rfl
  · rw [if_neg hs, if_neg hs]
theorem zv_ow {B : Nat → Int} {ln tk t b : Nat} {G : Nat → Nat → Int} {rn : Int} (h : zTt t b G B ln tk) (hr : rn = if zy_so B ln tk = 1 then zs_g za_ow 37 (zBc B ln) (zy_fr B ln tk) ((zy_to B ln tk - zy_fr B ln tk : Nat) : Int) 0 else -1) : rn = if zy_so B ln tk = 1 then ych ywo 0 (zy_wo B ln tk) else -1 := by
  rw [hr]
  by_cases hs : zy_so B ln tk = 1
  · obtain ⟨h1, h2⟩ := zBc_let h hs
    rw [if_pos hs, if_pos hs, zaw_ow h1, h2]
    rfl
  · rw [if_neg hs, if_neg hs]
theorem zv_oc {B : Nat → Int} {ln tk t b : Nat} {G : Nat → Nat → Int} {rn : Int} (h : zTt t b G B ln tk) (hr : rn = if zy_so B ln tk = 1 then zs_g za_oc 17 (zBc B ln) (zy_fr B ln tk) ((zy_to B ln tk - zy_fr B ln tk : Nat) : Int) 0 else -1) : rn = if zy_so B ln tk = 1 then ych [763332, 11449, 19118, 431556] 0 (zy_wo B ln tk) else -1 := by
  rw [hr]
  by_cases hs : zy_so B ln tk = 1
  · obtain ⟨h1, h2⟩ := zBc_let h hs
    rw [if_pos hs, if_pos hs, zaw_oc h1, h2]
    rfl
  · rw [if_neg hs, if_neg hs]
theorem zv_by {B : Nat → Int} {ln tk t b : Nat} {G : Nat → Nat → Int} {rn : Int} (h : zTt t b G B ln tk) (hr : rn = if zy_so B ln tk = 1 then zs_g za_by 2 (zBc B ln) (zy_fr B ln tk) ((zy_to B ln tk - zy_fr B ln tk : Nat) : Int) 0 else -1) : rn = 0 ↔ yr_w (zy_so B ln) (zy_wo B ln) 89 tk = true := by
  unfold yr_w
  rw [Bool.and_eq_true, decide_eq_true_eq, decide_eq_true_eq, hr]
  by_cases hs : zy_so B ln tk = 1
  · obtain ⟨h1, h2⟩ := zBc_let h hs
    rw [if_pos hs, zaw_by h1, h2]
    by_cases hz : zy_wo B ln tk = 89
    · rw [if_pos hz]
      exact ⟨fun _ => ⟨hs, hz⟩, fun _ => rfl⟩
    · rw [if_neg hz]
      exact ⟨fun z => absurd z (by decide), fun z => absurd z.2 hz⟩
  · rw [if_neg hs]
    exact ⟨fun z => absurd z (by decide), fun z => absurd z.1 hs⟩
def zK_viby : zk_K := (zt_mn 68, prog_9_method_9_code, 2, (Option.some Jvm.ClassFile.FieldType.boolean), 1, 7, [(2, 7, 0, 0), (2, 203, 0, 0)], [(some (0, 0, 0, 1), [])], [], (10, 246, 0, 0))
def zφ_viby (b : Nat) (B : Nat → Int) (ln tk : Nat) : (Nat → Option Nat) → (Nat → Nat → Int) → List Int → Prop := fun P G ps => zTt (zp_0 ps) b G B ln tk
def zψ_viby (b : Nat) (B : Nat → Int) (ln tk : Nat) : (Nat → Option Nat) → (Nat → Nat → Int) → List Int → (Nat → Option Nat) → (Nat → Nat → Int) → Int → Prop := fun P G ps P' G' rn => P' = P ∧ G' = G ∧ (rn = 1 ↔ yr_w (zy_so B ln) (zy_wo B ln) 89 tk = true)
theorem zX_viby {l : Launch} {w : zk_W} (hW : zh_W w) (b : Nat) (B : Nat → Int) (ln tk : Nat) : zk_metX l w zt_dv zt_TB zK_viby (zp_A (zφ_viby b B ln tk)) (zp_B (zψ_viby b B ln tk)) ∧ zk_cok w zt_TB zK_viby := by
  refine zp_methX (cn := "WoundTown$Tape") zp_lkallT9 hW (pl := 831) rfl (by decide +kernel) (fun p e R s m args below meth c Q u hx hb hE hQ hU5 heff hnL hok hφ => ?_)
  have hw := hW.1
  obtain ⟨p0, p1, hps, k0, k1⟩ := zp_ps2 hok
  obtain ⟨a, rfl, hp⟩ := zp_this k0
  have hrm : zk_Kr (zk_ev (zt_types, zp_lkT9, zt_dv, [], [], zp_lcT9, zK_viby)) = zk_Kr zK_viby := rfl
  rw [hps] at hφ ⊢
  show zp_J p l e R s m args below meth c Q w u [] 0 [(0, 2, (a : Int)), (1, 2, p1)] [] u.1 (zp_n u.2.1)
  obtain ⟨sx, rfl, qs⟩ := zp_this k1
  have hT : zTt a b (zp_n u.2.1) B ln tk := hφ
  refine zp_load (pc := 0) hx hb (zd_X7_isWord (0, .aload_n 0, 1, 0, []) (List.mem_of_getElem? (i := 0) rfl)) rfl (j := 0) rfl ?_
  refine zp_load (pc := 1) hx hb (zd_X7_isWord (1, .aload_n 1, 1, 0, []) (List.mem_of_getElem? (i := 1) rfl)) rfl (j := 1) rfl ?_
  refine zp_call (pc := 2) (how := 0) (idx := 41) (mi := 46) (S := []) hx hb hE hw heff hrm (zX_vwby hW b B ln tk) rfl (j := 6) rfl rfl (by decide +kernel) (zd_X7_isWord (2, .invokevirtual 41, 3, 0, []) (List.mem_of_getElem? (i := 2) rfl)) [(a : Int), (sx : Int)] rfl ⟨zp_o2 hp, zp_o2 qs, trivial⟩ (Nat.le_of_ble_eq_true rfl) hT (fun al hal rnw Pw Gw hextw hfrw hokw hcsw hpsiw => ?_)
  obtain rfl := List.mem_singleton.mp hal
  have hrw := zp_int (hokw _ rfl).1
  obtain ⟨hPew, hGew, htw⟩ := hpsiw
  rw [hPew, hGew]
  have hx9 := zv_by hT htw
  refine zp_if (pc := 5) (tgt := 12) hx hb (zd_X7_isWord (5, .ifCond .ne 7, 3, 0, []) (List.mem_of_getElem? (i := 3) rfl)) rfl (fun (hc171 : ¬ rnw = 0) => ?_) (fun (hc171 : ¬ (¬ rnw = 0)) => ?_)
  · refine zp_const (pc := 12) hx hb (zd_X7_isWord (12, .iconst 0, 1, 0, []) (List.mem_of_getElem? (i := 6) rfl)) rfl rfl ?_
    refine zp_zret (pc := 13) (n := 0) hx hb hE hQ hU5 rfl (by decide) (zd_X7_isWord (13, .ireturn, 1, 0, []) (List.mem_of_getElem? (i := 7) rfl)) (j := 0) rfl (zp_o0 (by omega) (by omega) (by omega) (by omega)) ?_
    rw [hps]
    refine ⟨rfl, rfl, ?_⟩
    show (0 = 1 ↔ _)
    rw [← hx9]
    omega
  · refine zp_const (pc := 8) hx hb (zd_X7_isWord (8, .iconst 1, 1, 0, []) (List.mem_of_getElem? (i := 4) rfl)) rfl rfl ?_
    refine zp_goto (tgt := 13) (pc := 9) hx hb (zd_X7_isWord (9, .goto 4, 3, 0, []) (List.mem_of_getElem? (i := 5) rfl)) rfl ?_
    refine zp_zret (pc := 13) (n := 1) hx hb hE hQ hU5 rfl (by decide) (zd_X7_isWord (13, .ireturn, 1, 0, []) (List.mem_of_getElem? (i := 7) rfl)) (j := 0) rfl (zp_o0 (by omega) (by omega) (by omega) (by omega)) ?_
    rw [hps]
    refine ⟨rfl, rfl, ?_⟩
    show (1 = 1 ↔ _)
    rw [← hx9]
    omega
theorem zv_ti {B : Nat → Int} {ln tk t b : Nat} {G : Nat → Nat → Int} {rn : Int} (h : zTt t b G B ln tk) (hr : rn = if zy_so B ln tk = 1 then zs_g za_ti 5 (zBc B ln) (zy_fr B ln tk) ((zy_to B ln tk - zy_fr B ln tk : Nat) : Int) 0 else -1) : rn = 0 ↔ yr_w (zy_so B ln) (zy_wo B ln) 21279923 tk = true := by
  unfold yr_w
  rw [Bool.and_eq_true, decide_eq_true_eq, decide_eq_true_eq, hr]
  by_cases hs : zy_so B ln tk = 1
  · obtain ⟨h1, h2⟩ := zBc_let h hs
    rw [if_pos hs, zaw_ti h1, h2]
    by_cases hz : zy_wo B ln tk = 21279923
    · rw [if_pos hz]
      exact ⟨fun _ => ⟨hs, hz⟩, fun _ => rfl⟩
    · rw [if_neg hz]
      exact ⟨fun z => absurd z (by decide), fun z => absurd z.2 hz⟩
  · rw [if_neg hs]
    exact ⟨fun z => absurd z (by decide), fun z => absurd z.1 hs⟩
def zK_viti : zk_K := (zt_mn 68, prog_9_method_9_code, 2, (Option.some Jvm.ClassFile.FieldType.boolean), 1, 7, [(2, 7, 0, 0), (2, 204, 0, 0)], [(some (0, 0, 0, 1), [])], [], (10, 246, 0, 0))
def zφ_viti (b : Nat) (B : Nat → Int) (ln tk : Nat) : (Nat → Option Nat) → (Nat → Nat → Int) → List Int → Prop := fun P G ps => zTt (zp_0 ps) b G B ln tk
def zψ_viti (b : Nat) (B : Nat → Int) (ln tk : Nat) : (Nat → Option Nat) → (Nat → Nat → Int) → List Int → (Nat → Option Nat) → (Nat → Nat → Int) → Int → Prop := fun P G ps P' G' rn => P' = P ∧ G' = G ∧ (rn = 1 ↔ yr_w (zy_so B ln) (zy_wo B ln) 21279923 tk = true)
theorem zX_viti {l : Launch} {w : zk_W} (hW : zh_W w) (b : Nat) (B : Nat → Int) (ln tk : Nat) : zk_metX l w zt_dv zt_TB zK_viti (zp_A (zφ_viti b B ln tk)) (zp_B (zψ_viti b B ln tk)) ∧ zk_cok w zt_TB zK_viti := by
  refine zp_methX (cn := "WoundTown$Tape") zp_lkallT9 hW (pl := 831) rfl (by decide +kernel) (fun p e R s m args below meth c Q u hx hb hE hQ hU5 heff hnL hok hφ => ?_)
  have hw := hW.1
  obtain ⟨p0, p1, hps, k0, k1⟩ := zp_ps2 hok
  obtain ⟨a, rfl, hp⟩ := zp_this k0
  have hrm : zk_Kr (zk_ev (zt_types, zp_lkT9, zt_dv, [], [], zp_lcT9, zK_viti)) = zk_Kr zK_viti := rfl
  rw [hps] at hφ ⊢
  show zp_J p l e R s m args below meth c Q w u [] 0 [(0, 2, (a : Int)), (1, 2, p1)] [] u.1 (zp_n u.2.1)
  obtain ⟨sx, rfl, qs⟩ := zp_this k1
  have hT : zTt a b (zp_n u.2.1) B ln tk := hφ
  refine zp_load (pc := 0) hx hb (zd_X7_isWord (0, .aload_n 0, 1, 0, []) (List.mem_of_getElem? (i := 0) rfl)) rfl (j := 0) rfl ?_
  refine zp_load (pc := 1) hx hb (zd_X7_isWord (1, .aload_n 1, 1, 0, []) (List.mem_of_getElem? (i := 1) rfl)) rfl (j := 1) rfl ?_
  refine zp_call (pc := 2) (how := 0) (idx := 41) (mi := 46) (S := []) hx hb hE hw heff hrm (zX_vwti hW b B ln tk) rfl (j := 6) rfl rfl (by decide +kernel) (zd_X7_isWord (2, .invokevirtual 41, 3, 0, []) (List.mem_of_getElem? (i := 2) rfl)) [(a : Int), (sx : Int)] rfl ⟨zp_o2 hp, zp_o2 qs, trivial⟩ (Nat.le_of_ble_eq_true rfl) hT (fun al hal rnw Pw Gw hextw hfrw hokw hcsw hpsiw => ?_)
  obtain rfl := List.mem_singleton.mp hal
  have hrw := zp_int (hokw _ rfl).1
  obtain ⟨hPew, hGew, htw⟩ := hpsiw
  rw [hPew, hGew]
  have hx9 := zv_ti hT htw
  refine zp_if (pc := 5) (tgt := 12) hx hb (zd_X7_isWord (5, .ifCond .ne 7, 3, 0, []) (List.mem_of_getElem? (i := 3) rfl)) rfl (fun (hc172 : ¬ rnw = 0) => ?_) (fun (hc172 : ¬ (¬ rnw = 0)) => ?_)
  · refine zp_const (pc := 12) hx hb (zd_X7_isWord (12, .iconst 0, 1, 0, []) (List.mem_of_getElem? (i := 6) rfl)) rfl rfl ?_
    refine zp_zret (pc := 13) (n := 0) hx hb hE hQ hU5 rfl (by decide) (zd_X7_isWord (13, .ireturn, 1, 0, []) (List.mem_of_getElem? (i := 7) rfl)) (j := 0) rfl (zp_o0 (by omega) (by omega) (by omega) (by omega)) ?_
    rw [hps]
    refine ⟨rfl, rfl, ?_⟩
    show (0 = 1 ↔ _)
    rw [← hx9]
    omega
  · refine zp_const (pc := 8) hx hb (zd_X7_isWord (8, .iconst 1, 1, 0, []) (List.mem_of_getElem? (i := 4) rfl)) rfl rfl ?_
    refine zp_goto (tgt := 13) (pc := 9) hx hb (zd_X7_isWord (9, .goto 4, 3, 0, []) (List.mem_of_getElem? (i := 5) rfl)) rfl ?_
    refine zp_zret (pc := 13) (n := 1) hx hb hE hQ hU5 rfl (by decide) (zd_X7_isWord (13, .ireturn, 1, 0, []) (List.mem_of_getElem? (i := 7) rfl)) (j := 0) rfl (zp_o0 (by omega) (by omega) (by omega) (by omega)) ?_
    rw [hps]
    refine ⟨rfl, rfl, ?_⟩
    show (1 = 1 ↔ _)
    rw [← hx9]
    omega
theorem zv_if {B : Nat → Int} {ln tk t b : Nat} {G : Nat → Nat → Int} {rn : Int} (h : zTt t b G B ln tk) (hr : rn = if zy_so B ln tk = 1 then zs_g za_if 2 (zBc B ln) (zy_fr B ln tk) ((zy_to B ln tk - zy_fr B ln tk : Nat) : Int) 0 else -1) : rn = 0 ↔ yr_w (zy_so B ln) (zy_wo B ln) 294 tk = true := by
  unfold yr_w
  rw [Bool.and_eq_true, decide_eq_true_eq, decide_eq_true_eq, hr]
  by_cases hs : zy_so B ln tk = 1
  · obtain ⟨h1, h2⟩ := zBc_let h hs
    rw [if_pos hs, zaw_if h1, h2]
    by_cases hz : zy_wo B ln tk = 294
    · rw [if_pos hz]
      exact ⟨fun _ => ⟨hs, hz⟩, fun _ => rfl⟩
    · rw [if_neg hz]
      exact ⟨fun z => absurd z (by decide), fun z => absurd z.2 hz⟩
  · rw [if_neg hs]
    exact ⟨fun z => absurd z (by decide), fun z => absurd z.1 hs⟩
def zK_viif : zk_K := (zt_mn 68, prog_9_method_9_code, 2, (Option.some Jvm.ClassFile.FieldType.boolean), 1, 7, [(2, 7, 0, 0), (2, 205, 0, 0)], [(some (0, 0, 0, 1), [])], [], (10, 246, 0, 0))
def zφ_viif (b : Nat) (B : Nat → Int) (ln tk : Nat) : (Nat → Option Nat) → (Nat → Nat → Int) → List Int → Prop := fun P G ps => zTt (zp_0 ps) b G B ln tk
def zψ_viif (b : Nat) (B : Nat → Int) (ln tk : Nat) : (Nat → Option Nat) → (Nat → Nat → Int) → List Int → (Nat → Option Nat) → (Nat → Nat → Int) → Int → Prop := fun P G ps P' G' rn => P' = P ∧ G' = G ∧ (rn = 1 ↔ yr_w (zy_so B ln) (zy_wo B ln) 294 tk = true)
theorem zX_viif {l : Launch} {w : zk_W} (hW : zh_W w) (b : Nat) (B : Nat → Int) (ln tk : Nat) : zk_metX l w zt_dv zt_TB zK_viif (zp_A (zφ_viif b B ln tk)) (zp_B (zψ_viif b B ln tk)) ∧ zk_cok w zt_TB zK_viif := by
  refine zp_methX (cn := "WoundTown$Tape") zp_lkallT9 hW (pl := 831) rfl (by decide +kernel) (fun p e R s m args below meth c Q u hx hb hE hQ hU5 heff hnL hok hφ => ?_)
  have hw := hW.1
  obtain ⟨p0, p1, hps, k0, k1⟩ := zp_ps2 hok
  obtain ⟨a, rfl, hp⟩ := zp_this k0
  have hrm : zk_Kr (zk_ev (zt_types, zp_lkT9, zt_dv, [], [], zp_lcT9, zK_viif)) = zk_Kr zK_viif := rfl
  rw [hps] at hφ ⊢
  show zp_J p l e R s m args below meth c Q w u [] 0 [(0, 2, (a : Int)), (1, 2, p1)] [] u.1 (zp_n u.2.1)
  obtain ⟨sx, rfl, qs⟩ := zp_this k1
  have hT : zTt a b (zp_n u.2.1) B ln tk := hφ
  refine zp_load (pc := 0) hx hb (zd_X7_isWord (0, .aload_n 0, 1, 0, []) (List.mem_of_getElem? (i := 0) rfl)) rfl (j := 0) rfl ?_
  refine zp_load (pc := 1) hx hb (zd_X7_isWord (1, .aload_n 1, 1, 0, []) (List.mem_of_getElem? (i := 1) rfl)) rfl (j := 1) rfl ?_
  refine zp_call (pc := 2) (how := 0) (idx := 41) (mi := 46) (S := []) hx hb hE hw heff hrm (zX_vwif hW b B ln tk) rfl (j := 6) rfl rfl (by decide +kernel) (zd_X7_isWord (2, .invokevirtual 41, 3, 0, []) (List.mem_of_getElem? (i := 2) rfl)) [(a : Int), (sx : Int)] rfl ⟨zp_o2 hp, zp_o2 qs, trivial⟩ (Nat.le_of_ble_eq_true rfl) hT (fun al hal rnw Pw Gw hextw hfrw hokw hcsw hpsiw => ?_)
  obtain rfl := List.mem_singleton.mp hal
  have hrw := zp_int (hokw _ rfl).1
  obtain ⟨hPew, hGew, htw⟩ := hpsiw
  rw [hPew, hGew]
  have hx9 := zv_if hT htw
  refine zp_if (pc := 5) (tgt := 12) hx hb (zd_X7_isWord (5, .ifCond .ne 7, 3, 0, []) (List.mem_of_getElem? (i := 3) rfl)) rfl (fun (hc173 : ¬ rnw = 0) => ?_) (fun (hc173 : ¬ (¬ rnw = 0)) => ?_)
  · refine zp_const (pc := 12) hx hb (zd_X7_isWord (12, .iconst 0, 1, 0, []) (List.mem_of_getElem? (i := 6) rfl)) rfl rfl ?_
    refine zp_zret (pc := 13) (n := 0) hx hb hE hQ hU5 rfl (by decide) (zd_X7_isWord (13, .ireturn, 1, 0, []) (List.mem_of_getElem? (i := 7) rfl)) (j := 0) rfl (zp_o0 (by omega) (by omega) (by omega) (by omega)) ?_
    rw [hps]
    refine ⟨rfl, rfl, ?_⟩
    show (0 = 1 ↔ _)
    rw [← hx9]
    omega
  · refine zp_const (pc := 8) hx hb (zd_X7_isWord (8, .iconst 1, 1, 0, []) (List.mem_of_getElem? (i := 4) rfl)) rfl rfl ?_
    refine zp_goto (tgt := 13) (pc := 9) hx hb (zd_X7_isWord (9, .goto 4, 3, 0, []) (List.mem_of_getElem? (i := 5) rfl)) rfl ?_
    refine zp_zret (pc := 13) (n := 1) hx hb hE hQ hU5 rfl (by decide) (zd_X7_isWord (13, .ireturn, 1, 0, []) (List.mem_of_getElem? (i := 7) rfl)) (j := 0) rfl (zp_o0 (by omega) (by omega) (by omega) (by omega)) ?_
    rw [hps]
    refine ⟨rfl, rfl, ?_⟩
    show (1 = 1 ↔ _)
    rw [← hx9]
    omega
theorem zv_or {B : Nat → Int} {ln tk t b : Nat} {G : Nat → Nat → Int} {rn : Int} (h : zTt t b G B ln tk) (hr : rn = if zy_so B ln tk = 1 then zs_g za_or 2 (zBc B ln) (zy_fr B ln tk) ((zy_to B ln tk - zy_fr B ln tk : Nat) : Int) 0 else -1) : rn = 0 ↔ yr_w (zy_so B ln) (zy_wo B ln) 498 tk = true := by
  unfold yr_w
  rw [Bool.and_eq_true, decide_eq_true_eq, decide_eq_true_eq, hr]
  by_cases hs : zy_so B ln tk = 1
  · obtain ⟨h1, h2⟩ := zBc_let h hs
    rw [if_pos hs, zaw_or h1, h2]
    by_cases hz : zy_wo B ln tk = 498
    · rw [if_pos hz]
      exact ⟨fun _ => ⟨hs, hz⟩, fun _ => rfl⟩
    · rw [if_neg hz]
      exact ⟨fun z => absurd z (by decide), fun z => absurd z.2 hz⟩
  · rw [if_neg hs]
    exact ⟨fun z => absurd z (by decide), fun z => absurd z.1 hs⟩
def zK_vior : zk_K := (zt_mn 68, prog_9_method_9_code, 2, (Option.some Jvm.ClassFile.FieldType.boolean), 1, 7, [(2, 7, 0, 0), (2, 208, 0, 0)], [(some (0, 0, 0, 1), [])], [], (10, 246, 0, 0))
def zφ_vior (b : Nat) (B : Nat → Int) (ln tk : Nat) : (Nat → Option Nat) → (Nat → Nat → Int) → List Int → Prop := fun P G ps => zTt (zp_0 ps) b G B ln tk
def zψ_vior (b : Nat) (B : Nat → Int) (ln tk : Nat) : (Nat → Option Nat) → (Nat → Nat → Int) → List Int → (Nat → Option Nat) → (Nat → Nat → Int) → Int → Prop := fun P G ps P' G' rn => P' = P ∧ G' = G ∧ (rn = 1 ↔ yr_w (zy_so B ln) (zy_wo B ln) 498 tk = true)
theorem zX_vior {l : Launch} {w : zk_W} (hW : zh_W w) (b : Nat) (B : Nat → Int) (ln tk : Nat) : zk_metX l w zt_dv zt_TB zK_vior (zp_A (zφ_vior b B ln tk)) (zp_B (zψ_vior b B ln tk)) ∧ zk_cok w zt_TB zK_vior := by
  refine zp_methX (cn := "WoundTown$Tape") zp_lkallT9 hW (pl := 831) rfl (by decide +kernel) (fun p e R s m args below meth c Q u hx hb hE hQ hU5 heff hnL hok hφ => ?_)
  have hw := hW.1
  obtain ⟨p0, p1, hps, k0, k1⟩ := zp_ps2 hok
  obtain ⟨a, rfl, hp⟩ := zp_this k0
  have hrm : zk_Kr (zk_ev (zt_types, zp_lkT9, zt_dv, [], [], zp_lcT9, zK_vior)) = zk_Kr zK_vior := rfl
  rw [hps] at hφ ⊢
  show zp_J p l e R s m args below meth c Q w u [] 0 [(0, 2, (a : Int)), (1, 2, p1)] [] u.1 (zp_n u.2.1)
  obtain ⟨sx, rfl, qs⟩ := zp_this k1
  have hT : zTt a b (zp_n u.2.1) B ln tk := hφ
  refine zp_load (pc := 0) hx hb (zd_X7_isWord (0, .aload_n 0, 1, 0, []) (List.mem_of_getElem? (i := 0) rfl)) rfl (j := 0) rfl ?_
  refine zp_load (pc := 1) hx hb (zd_X7_isWord (1, .aload_n 1, 1, 0, []) (List.mem_of_getElem? (i := 1) rfl)) rfl (j := 1) rfl ?_
  refine zp_call (pc := 2) (how := 0) (idx := 41) (mi := 46) (S := []) hx hb hE hw heff hrm (zX_vwor hW b B ln tk) rfl (j := 6) rfl rfl (by decide +kernel) (zd_X7_isWord (2, .invokevirtual 41, 3, 0, []) (List.mem_of_getElem? (i := 2) rfl)) [(a : Int), (sx : Int)] rfl ⟨zp_o2 hp, zp_o2 qs, trivial⟩ (Nat.le_of_ble_eq_true rfl) hT (fun al hal rnw Pw Gw hextw hfrw hokw hcsw hpsiw => ?_)
  obtain rfl := List.mem_singleton.mp hal
  have hrw := zp_int (hokw _ rfl).1
  obtain ⟨hPew, hGew, htw⟩ := hpsiw
  rw [hPew, hGew]
  have hx9 := zv_or hT htw
  refine zp_if (pc := 5) (tgt := 12) hx hb (zd_X7_isWord (5, .ifCond .ne 7, 3, 0, []) (List.mem_of_getElem? (i := 3) rfl)) rfl (fun (hc174 : ¬ rnw = 0) => ?_) (fun (hc174 : ¬ (¬ rnw = 0)) => ?_)
  · refine zp_const (pc := 12) hx hb (zd_X7_isWord (12, .iconst 0, 1, 0, []) (List.mem_of_getElem? (i := 6) rfl)) rfl rfl ?_
    refine zp_zret (pc := 13) (n := 0) hx hb hE hQ hU5 rfl (by decide) (zd_X7_isWord (13, .ireturn, 1, 0, []) (List.mem_of_getElem? (i := 7) rfl)) (j := 0) rfl (zp_o0 (by omega) (by omega) (by omega) (by omega)) ?_
    rw [hps]
    refine ⟨rfl, rfl, ?_⟩
    show (0 = 1 ↔ _)
    rw [← hx9]
    omega
  · refine zp_const (pc := 8) hx hb (zd_X7_isWord (8, .iconst 1, 1, 0, []) (List.mem_of_getElem? (i := 4) rfl)) rfl rfl ?_
    refine zp_goto (tgt := 13) (pc := 9) hx hb (zd_X7_isWord (9, .goto 4, 3, 0, []) (List.mem_of_getElem? (i := 5) rfl)) rfl ?_
    refine zp_zret (pc := 13) (n := 1) hx hb hE hQ hU5 rfl (by decide) (zd_X7_isWord (13, .ireturn, 1, 0, []) (List.mem_of_getElem? (i := 7) rfl)) (j := 0) rfl (zp_o0 (by omega) (by omega) (by omega) (by omega)) ?_
    rw [hps]
    refine ⟨rfl, rfl, ?_⟩
    show (1 = 1 ↔ _)
    rw [← hx9]
    omega
theorem zv_an {B : Nat → Int} {ln tk t b : Nat} {G : Nat → Nat → Int} {rn : Int} (h : zTt t b G B ln tk) (hr : rn = if zy_so B ln tk = 1 then zs_g za_an 3 (zBc B ln) (zy_fr B ln tk) ((zy_to B ln tk - zy_fr B ln tk : Nat) : Int) 0 else -1) : rn = 0 ↔ yr_w (zy_so B ln) (zy_wo B ln) 1476 tk = true := by
  unfold yr_w
  rw [Bool.and_eq_true, decide_eq_true_eq, decide_eq_true_eq, hr]
  by_cases hs : zy_so B ln tk = 1
  · obtain ⟨h1, h2⟩ := zBc_let h hs
    rw [if_pos hs, zaw_an h1, h2]
    by_cases hz : zy_wo B ln tk = 1476
    · rw [if_pos hz]
      exact ⟨fun _ => ⟨hs, hz⟩, fun _ => rfl⟩
    · rw [if_neg hz]
      exact ⟨fun z => absurd z (by decide), fun z => absurd z.2 hz⟩
  · rw [if_neg hs]
    exact ⟨fun z => absurd z (by decide), fun z => absurd z.1 hs⟩
def zK_vian : zk_K := (zt_mn 68, prog_9_method_9_code, 2, (Option.some Jvm.ClassFile.FieldType.boolean), 1, 7, [(2, 7, 0, 0), (2, 207, 0, 0)], [(some (0, 0, 0, 1), [])], [], (10, 246, 0, 0))
def zφ_vian (b : Nat) (B : Nat → Int) (ln tk : Nat) : (Nat → Option Nat) → (Nat → Nat → Int) → List Int → Prop := fun P G ps => zTt (zp_0 ps) b G B ln tk
def zψ_vian (b : Nat) (B : Nat → Int) (ln tk : Nat) : (Nat → Option Nat) → (Nat → Nat → Int) → List Int → (Nat → Option Nat) → (Nat → Nat → Int) → Int → Prop := fun P G ps P' G' rn => P' = P ∧ G' = G ∧ (rn = 1 ↔ yr_w (zy_so B ln) (zy_wo B ln) 1476 tk = true)
theorem zX_vian {l : Launch} {w : zk_W} (hW : zh_W w) (b : Nat) (B : Nat → Int) (ln tk : Nat) : zk_metX l w zt_dv zt_TB zK_vian (zp_A (zφ_vian b B ln tk)) (zp_B (zψ_vian b B ln tk)) ∧ zk_cok w zt_TB zK_vian := by
  refine zp_methX (cn := "WoundTown$Tape") zp_lkallT9 hW (pl := 831) rfl (by decide +kernel) (fun p e R s m args below meth c Q u hx hb hE hQ hU5 heff hnL hok hφ => ?_)
  have hw := hW.1
  obtain ⟨p0, p1, hps, k0, k1⟩ := zp_ps2 hok
  obtain ⟨a, rfl, hp⟩ := zp_this k0
  have hrm : zk_Kr (zk_ev (zt_types, zp_lkT9, zt_dv, [], [], zp_lcT9, zK_vian)) = zk_Kr zK_vian := rfl
  rw [hps] at hφ ⊢
  show zp_J p l e R s m args below meth c Q w u [] 0 [(0, 2, (a : Int)), (1, 2, p1)] [] u.1 (zp_n u.2.1)
  obtain ⟨sx, rfl, qs⟩ := zp_this k1
  have hT : zTt a b (zp_n u.2.1) B ln tk := hφ
  refine zp_load (pc := 0) hx hb (zd_X7_isWord (0, .aload_n 0, 1, 0, []) (List.mem_of_getElem? (i := 0) rfl)) rfl (j := 0) rfl ?_
  refine zp_load (pc := 1) hx hb (zd_X7_isWord (1, .aload_n 1, 1, 0, []) (List.mem_of_getElem? (i := 1) rfl)) rfl (j := 1) rfl ?_
  refine zp_call (pc := 2) (how := 0) (idx := 41) (mi := 46) (S := []) hx hb hE hw heff hrm (zX_vwan hW b B ln tk) rfl (j := 6) rfl rfl (by decide +kernel) (zd_X7_isWord (2, .invokevirtual 41, 3, 0, []) (List.mem_of_getElem? (i := 2) rfl)) [(a : Int), (sx : Int)] rfl ⟨zp_o2 hp, zp_o2 qs, trivial⟩ (Nat.le_of_ble_eq_true rfl) hT (fun al hal rnw Pw Gw hextw hfrw hokw hcsw hpsiw => ?_)
  obtain rfl := List.mem_singleton.mp hal
  have hrw := zp_int (hokw _ rfl).1
  obtain ⟨hPew, hGew, htw⟩ := hpsiw
  rw [hPew, hGew]
  have hx9 := zv_an hT htw
  refine zp_if (pc := 5) (tgt := 12) hx hb (zd_X7_isWord (5, .ifCond .ne 7, 3, 0, []) (List.mem_of_getElem? (i := 3) rfl)) rfl (fun (hc175 : ¬ rnw = 0) => ?_) (fun (hc175 : ¬ (¬ rnw = 0)) => ?_)
  · refine zp_const (pc := 12) hx hb (zd_X7_isWord (12, .iconst 0, 1, 0, []) (List.mem_of_getElem? (i := 6) rfl)) rfl rfl ?_
    refine zp_zret (pc := 13) (n := 0) hx hb hE hQ hU5 rfl (by decide) (zd_X7_isWord (13, .ireturn, 1, 0, []) (List.mem_of_getElem? (i := 7) rfl)) (j := 0) rfl (zp_o0 (by omega) (by omega) (by omega) (by omega)) ?_
    rw [hps]
    refine ⟨rfl, rfl, ?_⟩
    show (0 = 1 ↔ _)
    rw [← hx9]
    omega
  · refine zp_const (pc := 8) hx hb (zd_X7_isWord (8, .iconst 1, 1, 0, []) (List.mem_of_getElem? (i := 4) rfl)) rfl rfl ?_
    refine zp_goto (tgt := 13) (pc := 9) hx hb (zd_X7_isWord (9, .goto 4, 3, 0, []) (List.mem_of_getElem? (i := 5) rfl)) rfl ?_
    refine zp_zret (pc := 13) (n := 1) hx hb hE hQ hU5 rfl (by decide) (zd_X7_isWord (13, .ireturn, 1, 0, []) (List.mem_of_getElem? (i := 7) rfl)) (j := 0) rfl (zp_o0 (by omega) (by omega) (by omega) (by omega)) ?_
    rw [hps]
    refine ⟨rfl, rfl, ?_⟩
    show (1 = 1 ↔ _)
    rw [← hx9]
    omega
theorem zv_no {B : Nat → Int} {ln tk t b : Nat} {G : Nat → Nat → Int} {rn : Int} (h : zTt t b G B ln tk) (hr : rn = if zy_so B ln tk = 1 then zs_g za_no 3 (zBc B ln) (zy_fr B ln tk) ((zy_to B ln tk - zy_fr B ln tk : Nat) : Int) 0 else -1) : rn = 0 ↔ yr_w (zy_so B ln) (zy_wo B ln) 14836 tk = true := by
  unfold yr_w
  rw [Bool.and_eq_true, decide_eq_true_eq, decide_eq_true_eq, hr]
  by_cases hs : zy_so B ln tk = 1
  · obtain ⟨h1, h2⟩ := zBc_let h hs
    rw [if_pos hs, zaw_no h1, h2]
    by_cases hz : zy_wo B ln tk = 14836
    · rw [if_pos hz]
      exact ⟨fun _ => ⟨hs, hz⟩, fun _ => rfl⟩
    · rw [if_neg hz]
      exact ⟨fun z => absurd z (by decide), fun z => absurd z.2 hz⟩
  · rw [if_neg hs]
    exact ⟨fun z => absurd z (by decide), fun z => absurd z.1 hs⟩
def zK_vino : zk_K := (zt_mn 68, prog_9_method_9_code, 2, (Option.some Jvm.ClassFile.FieldType.boolean), 1, 7, [(2, 7, 0, 0), (2, 206, 0, 0)], [(some (0, 0, 0, 1), [])], [], (10, 246, 0, 0))
def zφ_vino (b : Nat) (B : Nat → Int) (ln tk : Nat) : (Nat → Option Nat) → (Nat → Nat → Int) → List Int → Prop := fun P G ps => zTt (zp_0 ps) b G B ln tk
def zψ_vino (b : Nat) (B : Nat → Int) (ln tk : Nat) : (Nat → Option Nat) → (Nat → Nat → Int) → List Int → (Nat → Option Nat) → (Nat → Nat → Int) → Int → Prop := fun P G ps P' G' rn => P' = P ∧ G' = G ∧ (rn = 1 ↔ yr_w (zy_so B ln) (zy_wo B ln) 14836 tk = true)
theorem zX_vino {l : Launch} {w : zk_W} (hW : zh_W w) (b : Nat) (B : Nat → Int) (ln tk : Nat) : zk_metX l w zt_dv zt_TB zK_vino (zp_A (zφ_vino b B ln tk)) (zp_B (zψ_vino b B ln tk)) ∧ zk_cok w zt_TB zK_vino := by
  refine zp_methX (cn := "WoundTown$Tape") zp_lkallT9 hW (pl := 831) rfl (by decide +kernel) (fun p e R s m args below meth c Q u hx hb hE hQ hU5 heff hnL hok hφ => ?_)
  have hw := hW.1
  obtain ⟨p0, p1, hps, k0, k1⟩ := zp_ps2 hok
  obtain ⟨a, rfl, hp⟩ := zp_this k0
  have hrm : zk_Kr (zk_ev (zt_types, zp_lkT9, zt_dv, [], [], zp_lcT9, zK_vino)) = zk_Kr zK_vino := rfl
  rw [hps] at hφ ⊢
  show zp_J p l e R s m args below meth c Q w u [] 0 [(0, 2, (a : Int)), (1, 2, p1)] [] u.1 (zp_n u.2.1)
  obtain ⟨sx, rfl, qs⟩ := zp_this k1
  have hT : zTt a b (zp_n u.2.1) B ln tk := hφ
  refine zp_load (pc := 0) hx hb (zd_X7_isWord (0, .aload_n 0, 1, 0, []) (List.mem_of_getElem? (i := 0) rfl)) rfl (j := 0) rfl ?_
  refine zp_load (pc := 1) hx hb (zd_X7_isWord (1, .aload_n 1, 1, 0, []) (List.mem_of_getElem? (i := 1) rfl)) rfl (j := 1) rfl ?_
  refine zp_call (pc := 2) (how := 0) (idx := 41) (mi := 46) (S := []) hx hb hE hw heff hrm (zX_vwno hW b B ln tk) rfl (j := 6) rfl rfl (by decide +kernel) (zd_X7_isWord (2, .invokevirtual 41, 3, 0, []) (List.mem_of_getElem? (i := 2) rfl)) [(a : Int), (sx : Int)] rfl ⟨zp_o2 hp, zp_o2 qs, trivial⟩ (Nat.le_of_ble_eq_true rfl) hT (fun al hal rnw Pw Gw hextw hfrw hokw hcsw hpsiw => ?_)
  obtain rfl := List.mem_singleton.mp hal
  have hrw := zp_int (hokw _ rfl).1
  obtain ⟨hPew, hGew, htw⟩ := hpsiw
  rw [hPew, hGew]
  have hx9 := zv_no hT htw
  refine zp_if (pc := 5) (tgt := 12) hx hb (zd_X7_isWord (5, .ifCond .ne 7, 3, 0, []) (List.mem_of_getElem? (i := 3) rfl)) rfl (fun (hc176 : ¬ rnw = 0) => ?_) (fun (hc176 : ¬ (¬ rnw = 0)) => ?_)
  · refine zp_const (pc := 12) hx hb (zd_X7_isWord (12, .iconst 0, 1, 0, []) (List.mem_of_getElem? (i := 6) rfl)) rfl rfl ?_
    refine zp_zret (pc := 13) (n := 0) hx hb hE hQ hU5 rfl (by decide) (zd_X7_isWord (13, .ireturn, 1, 0, []) (List.mem_of_getElem? (i := 7) rfl)) (j := 0) rfl (zp_o0 (by omega) (by omega) (by omega) (by omega)) ?_
    rw [hps]
    refine ⟨rfl, rfl, ?_⟩
    show (0 = 1 ↔ _)
    rw [← hx9]
    omega
  · refine zp_const (pc := 8) hx hb (zd_X7_isWord (8, .iconst 1, 1, 0, []) (List.mem_of_getElem? (i := 4) rfl)) rfl rfl ?_
    refine zp_goto (tgt := 13) (pc := 9) hx hb (zd_X7_isWord (9, .goto 4, 3, 0, []) (List.mem_of_getElem? (i := 5) rfl)) rfl ?_
    refine zp_zret (pc := 13) (n := 1) hx hb hE hQ hU5 rfl (by decide) (zd_X7_isWord (13, .ireturn, 1, 0, []) (List.mem_of_getElem? (i := 7) rfl)) (j := 0) rfl (zp_o0 (by omega) (by omega) (by omega) (by omega)) ?_
    rw [hps]
    refine ⟨rfl, rfl, ?_⟩
    show (1 = 1 ↔ _)
    rw [← hx9]
    omega
/-- a row of digits as the class reads it -/
def zv_nf (B : Nat → Int) (f : Nat) : Nat → Int
  | 0 => 0
  | k + 1 => min 10000 (zv_nf B f k * 10 + B (f + k) - 48)
theorem zv_nf_d {B : Nat → Int} {f : Nat} : ∀ k, (∀ i, i < k → 48 ≤ B (f + i) ∧ B (f + i) ≤ 57) → 0 ≤ zv_nf B f k ∧ zv_nf B f k ≤ 10000 ∧ (zv_nf B f k < 10000 → zy_dw B f k = zv_nf B f k) ∧ (zv_nf B f k = 10000 → 10000 ≤ zy_dw B f k)
  | 0, _ => ⟨Int.le_refl 0, (show (0 : Int) ≤ 10000 by decide), fun _ => rfl, fun h => absurd (show (0 : Int) = 10000 from h) (by decide)⟩
  | k + 1, h => by
    obtain ⟨h1, h2, h3, h4⟩ := zv_nf_d (B := B) (f := f) k (fun i hi => h i (by omega))
    have hd := h k (by omega)
    have e1 : zv_nf B f (k + 1) = min 10000 (zv_nf B f k * 10 + B (f + k) - 48) := rfl
    have e2 : zy_dw B f (k + 1) = if 1000000 < zy_dw B f k then zy_dw B f k else zy_dw B f k * 10 + B (f + k) - 48 := rfl
    rw [e1, e2]
    by_cases hc : zv_nf B f k < 10000
    · have e3 := h3 hc
      rw [e3, if_neg (by omega)]
      refine ⟨by omega, by omega, fun _ => by omega, fun _ => by omega⟩
    · have e4 := h4 (by omega)
      refine ⟨by omega, by omega, fun z => by omega, fun _ => ?_⟩
      split <;> omega
theorem zBc_dig {t b : Nat} {G : Nat → Nat → Int} {B : Nat → Int} {ln tk : Nat} (h : zTt t b G B ln tk) (hs : zy_so B ln tk = 2) : (∀ i, i < zy_to B ln tk - zy_fr B ln tk → 48 ≤ B (zy_fr B ln tk + i) ∧ B (zy_fr B ln tk + i) ≤ 57) ∧ zy_dw B (zy_fr B ln tk) (zy_to B ln tk - zy_fr B ln tk) = zy_wo B ln tk := by
  have hl := zTt_len h
  constructor
  · intro i hi
    exact zy_dg_i.mp (zy_r_all (len := ln) (p := zy_fr B ln tk) (by omega) (by rw [← zy_to_2 hs]; omega))
  · unfold zy_wo
    rw [if_neg (by omega), if_pos hs]
def zK_vnw : zk_K := (zt_mn 65, prog_9_method_11_code, 5, (Option.some Jvm.ClassFile.FieldType.int), 1, 7, [(2, 7, 0, 0), (0, 0, 0, 1), (0, 0, 0, 1000)], [(some (0, 0, (-1), 1000), [])], [], (1, 60, 0, 0))
def zφ_vnw (b : Nat) (B : Nat → Int) (ln tk : Nat) : (Nat → Option Nat) → (Nat → Nat → Int) → List Int → Prop := fun P G ps => zTt (zp_0 ps) b G B ln tk
def zψ_vnw (b : Nat) (B : Nat → Int) (ln tk : Nat) : (Nat → Option Nat) → (Nat → Nat → Int) → List Int → (Nat → Option Nat) → (Nat → Nat → Int) → Int → Prop := fun P G ps P' G' rn => P' = P ∧ G' = G ∧ rn = if zy_so B ln tk = 2 ∧ ps.getD 1 0 ≤ zy_wo B ln tk ∧ zy_wo B ln tk ≤ ps.getD 2 0 then zy_wo B ln tk else -1
theorem zX_vnw {l : Launch} {w : zk_W} (hW : zh_W w) (b : Nat) (B : Nat → Int) (ln tk : Nat) : zk_metX l w zt_dv zt_TB zK_vnw (zp_A (zφ_vnw b B ln tk)) (zp_B (zψ_vnw b B ln tk)) ∧ zk_cok w zt_TB zK_vnw := by
  refine zp_methX (cn := "WoundTown$Tape") zp_lkallT9 hW (pl := 814) rfl (by decide +kernel) (fun p e R s m args below meth c Q u hx hb hE hQ hU5 heff hnL hok hφ => ?_)
  have hw := hW.1
  obtain ⟨p0, p1, p2, hps, k0, k1, k2⟩ := zp_ps3 hok
  obtain ⟨a, rfl, hp⟩ := zp_this k0
  have hrm : zk_Kr (zk_ev (zt_types, zp_lkT9, zt_dv, [], [], zp_lcT9, zK_vnw)) = zk_Kr zK_vnw := rfl
  rw [hps] at hφ ⊢
  have hi1 := zp_int k1
  have hi2 := zp_int k2
  show zp_J p l e R s m args below meth c Q w u [] 0 [(0, 2, (a : Int)), (1, 0, p1), (2, 0, p2)] [] u.1 (zp_n u.2.1)
  have hT0 : zTt a b (zp_n u.2.1) B ln tk := hφ
  have hT : zTt a b (zp_n u.2.1) B ln tk := hφ
  have hlen := zTt_len hT
  obtain ⟨⟨t0, t1, t2, t3⟩, t5, t6, c2, c3, c4, c5⟩ := hT
  obtain ⟨so, hso⟩ : ∃ x : Nat, x = zy_so B ln tk := ⟨_, rfl⟩
  obtain ⟨f, hf⟩ : ∃ x : Nat, x = zy_fr B ln tk := ⟨_, rfl⟩
  obtain ⟨q, hq⟩ : ∃ x : Nat, x = zy_to B ln tk := ⟨_, rfl⟩
  rw [← hso] at c2
  rw [← hf] at c3 hlen
  rw [← hq] at c4 hlen
  have loop : so = 2 → ∀ (n9 k : Nat), q - f - k < n9 → k ≤ q - f → zp_J p l e R s m args below meth c Q w u [] 18 [(4, 0, ((f + k : Nat) : Int)), (3, 0, (zv_nf B f k)), (0, 2, (a : Int)), (1, 0, p1), (2, 0, p2)] [] u.1 (zp_n u.2.1) := by
    intro hs1 n9
    induction n9 with
    | zero => intro k h; exact absurd h (Nat.not_lt_zero _)
    | succ n9 ih =>
      intro k hn hk
      rw [show ((f + k : Nat) : Int) = (f : Int) + (k : Int) by omega]
      have hdg := zBc_dig hT0 (hso.symm.trans hs1)
      rw [← hf, ← hq] at hdg
      have hnf := zv_nf_d (B := B) (f := f) k (fun i hi => hdg.1 i (by omega))
      obtain ⟨nm, hnm⟩ : ∃ x : Int, x = zv_nf B f k := ⟨_, rfl⟩
      rw [← hnm] at hnf
      rw [← hnm]
      have hnx : zv_nf B f (k + 1) = min 10000 (nm * 10 + B (f + k) - 48) := by
        rw [hnm]
        rfl
      refine zp_load (pc := 18) hx hb (zd_X7_numberWithin (18, .iload 4, 2, 0, []) (List.mem_of_getElem? (i := 11) rfl)) rfl (j := 0) rfl ?_
      refine zp_load (pc := 20) hx hb (zd_X7_numberWithin (20, .aload_n 0, 1, 0, []) (List.mem_of_getElem? (i := 12) rfl)) rfl (j := 2) rfl ?_
      refine zp_getf (n := (q : Int)) (pc := 21) hx hb hE hw (zd_X7_numberWithin (21, .getfield 19, 3, 0, []) (List.mem_of_getElem? (i := 13) rfl)) (j := 5) rfl rfl rfl hp c4 ?_
      refine zp_icmp (pc := 24) (tgt := 54) hx hb (zd_X7_numberWithin (24, .if_icmp .ge 30, 3, 0, []) (List.mem_of_getElem? (i := 14) rfl)) rfl (fun (hc177 : (q : Int) ≤ ((f : Int) + (k : Int))) => ?_) (fun (hc177 : ¬ ((q : Int) ≤ ((f : Int) + (k : Int)))) => ?_)
      · refine zp_load (pc := 54) hx hb (zd_X7_numberWithin (54, .iload_n 3, 1, 0, []) (List.mem_of_getElem? (i := 29) rfl)) rfl (j := 1) rfl ?_
        refine zp_load (pc := 55) hx hb (zd_X7_numberWithin (55, .iload_n 1, 1, 0, []) (List.mem_of_getElem? (i := 30) rfl)) rfl (j := 3) rfl ?_
        refine zp_load (pc := 56) hx hb (zd_X7_numberWithin (56, .iload_n 2, 1, 0, []) (List.mem_of_getElem? (i := 31) rfl)) rfl (j := 4) rfl ?_
        refine zp_call (pc := 57) (how := 4) (idx := 60) (mi := 15) (S := []) hx hb hE hw heff hrm (zX_iwn hW) rfl (j := 5) rfl rfl (by decide +kernel) (zd_X7_numberWithin (57, .invokestatic 60, 3, 0, []) (List.mem_of_getElem? (i := 32) rfl)) [nm, p1, p2] rfl ⟨zp_o0 (by omega) (by omega) (by omega) (by omega), zp_o0 (by omega) (by omega) (by omega) (by omega), zp_o0 (by omega) (by omega) (by omega) (by omega), trivial⟩ (Nat.le_of_ble_eq_true rfl) trivial (fun al hal rni Pi Gi hexti hfri hoki hcsi hpsii => ?_)
        obtain rfl := List.mem_singleton.mp hal
        have hri := zp_int (hoki _ rfl).1
        obtain ⟨hPei, hGei, hti⟩ := hpsii
        rw [hPei, hGei]
        have hti9 : rni = 1 ↔ p1 ≤ nm ∧ nm ≤ p2 := hti
        refine zp_if (pc := 60) (tgt := 67) hx hb (zd_X7_numberWithin (60, .ifCond .eq 7, 3, 0, []) (List.mem_of_getElem? (i := 33) rfl)) rfl (fun (hc178 : rni = 0) => ?_) (fun (hc178 : ¬ (rni = 0)) => ?_)
        · refine zp_const (pc := 67) hx hb (zd_X7_numberWithin (67, .iconst (-1), 1, 0, []) (List.mem_of_getElem? (i := 36) rfl)) rfl rfl ?_
          refine zp_iret (pc := 68) (n := (-1)) hx hb hE hQ hU5 rfl (by decide) (zd_X7_numberWithin (68, .ireturn, 1, 0, []) (List.mem_of_getElem? (i := 37) rfl)) (j := 0) rfl (zp_o0 (by omega) (by omega) (by omega) (by omega)) ?_
          rw [hps]
          refine ⟨rfl, rfl, ?_⟩
          show (-1) = if zy_so B ln tk = 2 ∧ p1 ≤ zy_wo B ln tk ∧ zy_wo B ln tk ≤ p2 then zy_wo B ln tk else -1
          have hkq : k = q - f := by omega
          have hwv : zy_dw B f k = zy_wo B ln tk := by rw [hkq]; exact hdg.2
          rw [← hso]
          by_cases hz : nm < 10000
          · have e := hnf.2.2.1 hz
            rw [← hwv, e]
            by_cases hy : p1 ≤ nm ∧ nm ≤ p2
            · rw [if_pos ⟨hs1, hy⟩] <;> omega
            · rw [if_neg (fun y => hy y.2)] <;> omega
          · have e := hnf.2.2.2 (by omega)
            rw [if_neg (fun y => by omega)] <;> omega
        · refine zp_load (pc := 63) hx hb (zd_X7_numberWithin (63, .iload_n 3, 1, 0, []) (List.mem_of_getElem? (i := 34) rfl)) rfl (j := 1) rfl ?_
          refine zp_goto (tgt := 68) (pc := 64) hx hb (zd_X7_numberWithin (64, .goto 4, 3, 0, []) (List.mem_of_getElem? (i := 35) rfl)) rfl ?_
          refine zp_iret (pc := 68) (n := nm) hx hb hE hQ hU5 rfl (by decide) (zd_X7_numberWithin (68, .ireturn, 1, 0, []) (List.mem_of_getElem? (i := 37) rfl)) (j := 0) rfl (zp_o0 (by omega) (by omega) (by omega) (by omega)) ?_
          rw [hps]
          refine ⟨rfl, rfl, ?_⟩
          show nm = if zy_so B ln tk = 2 ∧ p1 ≤ zy_wo B ln tk ∧ zy_wo B ln tk ≤ p2 then zy_wo B ln tk else -1
          have hkq : k = q - f := by omega
          have hwv : zy_dw B f k = zy_wo B ln tk := by rw [hkq]; exact hdg.2
          rw [← hso]
          by_cases hz : nm < 10000
          · have e := hnf.2.2.1 hz
            rw [← hwv, e]
            by_cases hy : p1 ≤ nm ∧ nm ≤ p2
            · rw [if_pos ⟨hs1, hy⟩] <;> omega
            · rw [if_neg (fun y => hy y.2)] <;> omega
          · have e := hnf.2.2.2 (by omega)
            rw [if_neg (fun y => by omega)] <;> omega
      · refine zp_const (pc := 27) hx hb (zd_X7_numberWithin (27, .sipush 10000, 3, 0, []) (List.mem_of_getElem? (i := 15) rfl)) rfl rfl ?_
        refine zp_load (pc := 30) hx hb (zd_X7_numberWithin (30, .iload_n 3, 1, 0, []) (List.mem_of_getElem? (i := 16) rfl)) rfl (j := 1) rfl ?_
        refine zp_const (pc := 31) hx hb (zd_X7_numberWithin (31, .bipush 10, 2, 0, []) (List.mem_of_getElem? (i := 17) rfl)) rfl rfl ?_
        refine zp_mul (n := (nm * 10)) (pc := 33) hx hb (zd_X7_numberWithin (33, .imul, 1, 0, []) (List.mem_of_getElem? (i := 18) rfl)) (by omega) (zp_r0 (by omega) (by omega)) ?_
        refine zp_load (pc := 34) hx hb (zd_X7_numberWithin (34, .aload_n 0, 1, 0, []) (List.mem_of_getElem? (i := 19) rfl)) rfl (j := 2) rfl ?_
        refine zp_load (pc := 35) hx hb (zd_X7_numberWithin (35, .iload 4, 2, 0, []) (List.mem_of_getElem? (i := 20) rfl)) rfl (j := 0) rfl ?_
        refine zp_call (pc := 37) (how := 0) (idx := 25) (mi := 37) (S := [(0, (nm * 10)), (0, 10000)]) hx hb hE hw heff hrm (zX_bya hW) rfl (j := 1) rfl rfl (by decide +kernel) (zd_X7_numberWithin (37, .invokevirtual 25, 3, 0, []) (List.mem_of_getElem? (i := 21) rfl)) [(a : Int), ((f : Int) + (k : Int))] rfl ⟨zp_o2 hp, zp_o0 (by omega) (by omega) (by omega) (by omega), trivial⟩ (Nat.le_of_ble_eq_true rfl) trivial (fun al hal rnb179 Pb179 Gb179 hextb179 hfrb179 hokb179 hcsb179 hpsib179 => ?_)
        obtain rfl := List.mem_singleton.mp hal
        have hrb179 := zp_int (hokb179 _ rfl).1
        obtain ⟨hPeb179, hGeb179, htb179⟩ := hpsib179
        rw [hPeb179, hGeb179]
        have hvb179 : rnb179 = zBc B ln (f + k) := by
          have h9 := htb179 (f + k) (show ((f : Int) + (k : Int)) = ((f + k : Nat) : Int) by omega)
          unfold zBc
          by_cases z : f + k < ln
          · rw [if_pos z]
            refine (h9.1 (show ((f + k : Nat) : Int) < zp_n u.2.1 a 1 by rw [t1]; omega)).trans ?_
            show zp_n u.2.1 (zp_n u.2.1 a 0).toNat (2000 + (f + k)) = _
            rw [t0, Int.toNat_natCast]
            exact t3 _
          · rw [if_neg z]
            exact h9.2 (show ¬ ((f + k : Nat) : Int) < zp_n u.2.1 a 1 by rw [t1]; omega)
        have hb9 : rnb179 = B (f + k) := by
          rw [hvb179]
          exact if_pos (by omega)
        have hb8 := hdg.1 k (by omega)
        refine zp_add (n := ((nm * 10) + rnb179)) (pc := 40) hx hb (zd_X7_numberWithin (40, .iadd, 1, 0, []) (List.mem_of_getElem? (i := 22) rfl)) (by omega) (zp_r0 (by omega) (by omega)) ?_
        refine zp_const (pc := 41) hx hb (zd_X7_numberWithin (41, .bipush 48, 2, 0, []) (List.mem_of_getElem? (i := 23) rfl)) rfl rfl ?_
        refine zp_sub (n := (((nm * 10) + rnb179) - 48)) (pc := 43) hx hb (zd_X7_numberWithin (43, .isub, 1, 0, []) (List.mem_of_getElem? (i := 24) rfl)) (by omega) (zp_r0 (by omega) (by omega)) ?_
        refine zp_mm (n := (min 10000 (((nm * 10) + rnb179) - 48))) (S := []) (pc := 44) hx hb hE hrm (zd_X7_numberWithin (44, .invokestatic 54, 3, 0, []) (List.mem_of_getElem? (i := 25) rfl)) (j := 7) rfl (Or.inr ⟨rfl, rfl⟩) (by decide) ?_
        refine zp_store (L' := [(3, 0, (min 10000 (((nm * 10) + rnb179) - 48))), (4, 0, ((f : Int) + (k : Int))), (0, 2, (a : Int)), (1, 0, p1), (2, 0, p2)]) (pc := 47) hx hb hnL (zd_X7_numberWithin (47, .istore_n 3, 1, 0, []) (List.mem_of_getElem? (i := 26) rfl)) rfl rfl rfl ?_
        refine zp_iinc (L' := [(4, 0, ((f : Int) + (k : Int) + 1)), (3, 0, (min 10000 (((nm * 10) + rnb179) - 48))), (0, 2, (a : Int)), (1, 0, p1), (2, 0, p2)]) (n := ((f : Int) + (k : Int) + 1)) (pc := 48) hx hb hnL (zd_X7_numberWithin (48, .iinc 4 1, 3, 0, []) (List.mem_of_getElem? (i := 27) rfl)) (j := 1) rfl (by omega) (zp_r0 (by omega) (by omega)) rfl rfl ?_
        refine zp_goto (tgt := 18) (pc := 51) hx hb (zd_X7_numberWithin (51, .goto (-33), 3, 0, []) (List.mem_of_getElem? (i := 28) rfl)) rfl ?_
        refine zp_drop (L' := [(4, 0, ((f + (k + 1) : Nat) : Int)), (3, 0, (min 10000 (((nm * 10) + rnb179) - 48))), (0, 2, (a : Int)), (1, 0, p1), (2, 0, p2)]) (by simp <;> omega) ?_
        have ih9 := ih (k + 1) (by omega) (by omega)
        rw [hnx, ← hb9] at ih9
        exact ih9
  refine zp_load (pc := 0) hx hb (zd_X7_numberWithin (0, .aload_n 0, 1, 0, []) (List.mem_of_getElem? (i := 0) rfl)) rfl (j := 0) rfl ?_
  refine zp_getf (n := (so : Int)) (pc := 1) hx hb hE hw (zd_X7_numberWithin (1, .getfield 35, 3, 0, []) (List.mem_of_getElem? (i := 1) rfl)) (j := 3) rfl rfl rfl hp c2 ?_
  refine zp_const (pc := 4) hx hb (zd_X7_numberWithin (4, .iconst 2, 1, 0, []) (List.mem_of_getElem? (i := 2) rfl)) rfl rfl ?_
  refine zp_icmp (pc := 5) (tgt := 10) hx hb (zd_X7_numberWithin (5, .if_icmp .eq 5, 3, 0, []) (List.mem_of_getElem? (i := 3) rfl)) rfl (fun (hc180 : (so : Int) = 2) => ?_) (fun (hc180 : ¬ ((so : Int) = 2)) => ?_)
  · refine zp_const (pc := 10) hx hb (zd_X7_numberWithin (10, .iconst 0, 1, 0, []) (List.mem_of_getElem? (i := 6) rfl)) rfl rfl ?_
    refine zp_store (L' := [(3, 0, 0), (0, 2, (a : Int)), (1, 0, p1), (2, 0, p2)]) (pc := 11) hx hb hnL (zd_X7_numberWithin (11, .istore_n 3, 1, 0, []) (List.mem_of_getElem? (i := 7) rfl)) rfl rfl rfl ?_
    refine zp_load (pc := 12) hx hb (zd_X7_numberWithin (12, .aload_n 0, 1, 0, []) (List.mem_of_getElem? (i := 8) rfl)) rfl (j := 1) rfl ?_
    refine zp_getf (n := (f : Int)) (pc := 13) hx hb hE hw (zd_X7_numberWithin (13, .getfield 29, 3, 0, []) (List.mem_of_getElem? (i := 9) rfl)) (j := 4) rfl rfl rfl hp c3 ?_
    refine zp_store (L' := [(4, 0, (f : Int)), (3, 0, 0), (0, 2, (a : Int)), (1, 0, p1), (2, 0, p2)]) (pc := 16) hx hb hnL (zd_X7_numberWithin (16, .istore 4, 2, 0, []) (List.mem_of_getElem? (i := 10) rfl)) rfl rfl rfl ?_
    have h9 := loop (by omega) (q - f + 1) 0 (by omega) (by omega)
    refine zp_drop (L' := [(4, 0, ((f + 0 : Nat) : Int)), (3, 0, 0), (0, 2, (a : Int)), (1, 0, p1), (2, 0, p2)]) (by simp) ?_
    exact h9
  · refine zp_const (pc := 8) hx hb (zd_X7_numberWithin (8, .iconst (-1), 1, 0, []) (List.mem_of_getElem? (i := 4) rfl)) rfl rfl ?_
    refine zp_iret (pc := 9) (n := (-1)) hx hb hE hQ hU5 rfl (by decide) (zd_X7_numberWithin (9, .ireturn, 1, 0, []) (List.mem_of_getElem? (i := 5) rfl)) (j := 0) rfl (zp_o0 (by omega) (by omega) (by omega) (by omega)) ?_
    rw [hps]
    refine ⟨rfl, rfl, ?_⟩
    show (-1) = if zy_so B ln tk = 2 ∧ p1 ≤ zy_wo B ln tk ∧ zy_wo B ln tk ≤ p2 then zy_wo B ln tk else -1
    rw [← hso, if_neg (by omega)]
