/-! part c3: the reference: small methods of the parser, exactly -/
theorem zDq_in : ∀ {L : List (Int × Int)}, (∀ e ∈ L, e.1 ≤ 32) → -1 ≤ ym_in L ∧ ym_in L ≤ 32
  | [], _ => ⟨by decide, by decide⟩
  | (o, t) :: r, h => by
    have h1 : o ≤ 32 := h (o, t) List.mem_cons_self
    have ih := zDq_in (L := r) (fun e he => h e (List.mem_cons_of_mem _ he))
    show -1 ≤ (if 31 ≤ o then o else ym_in r) ∧ (if 31 ≤ o then o else ym_in r) ≤ 32
    split
    · omega
    · exact ih
/-- the pile's place k -/
theorem zDp_at {pl pa : Nat → Int} : ∀ {L : List (Int × Int)} {k : Nat}, zDp pl pa L → k < L.length → ∃ (o t : Int), L.drop (L.length - k - 1) = (o, t) :: L.drop (L.length - k) ∧ pl k = o
  | [], k, _, h => absurd h (Nat.not_lt_zero k)
  | (o, t) :: r, k, ⟨h1, h2, h3⟩, h => by
    have hl : ((o, t) :: r).length = r.length + 1 := rfl
    by_cases hk : k = r.length
    · refine ⟨o, t, ?_, by rw [hk]; exact h1⟩
      rw [hl, hk, show r.length + 1 - r.length - 1 = 0 by omega, show r.length + 1 - r.length = 1 by omega]
      rfl
    · obtain ⟨o', t', g1, g2⟩ := zDp_at h3 (by omega : k < r.length)
      refine ⟨o', t', ?_, g2⟩
      rw [hl, show r.length + 1 - k - 1 = (r.length - k - 1) + 1 by omega, show r.length + 1 - k = (r.length - k) + 1 by omega]
      exact g1
def zψD_wo : (Nat → Option Nat) → (Nat → Nat → Int) → List Int → (Nat → Option Nat) → (Nat → Nat → Int) → Int → Prop := fun P G ps P' G' rn => P' = P ∧ G' = G ∧ (rn = 1 ↔ G (zp_0 ps) 16 = 1 ∧ G (zp_0 ps) 17 = ps.getD 1 0)
theorem zY_wo {l : Launch} {w : zk_W} (hW : zh_W w) : zk_metX l w zt_dv zt_TB zK_wo (zp_A zp_tA) (zp_B zψD_wo) ∧ zk_cok w zt_TB zK_wo := by
  sorry
def zψD_si : (Nat → Option Nat) → (Nat → Nat → Int) → List Int → (Nat → Option Nat) → (Nat → Nat → Int) → Int → Prop := fun P G ps P' G' rn => P' = P ∧ G' = G ∧ (rn = 1 ↔ G (zp_0 ps) 16 = 3 ∧ G (zp_0 ps) 17 = ps.getD 1 0)
theorem zY_si {l : Launch} {w : zk_W} (hW : zh_W w) : zk_metX l w zt_dv zt_TB zK_si (zp_A zp_tA) (zp_B zψD_si) ∧ zk_cok w zt_TB zK_si := by
  sorry
def zψD_in : (Nat → Option Nat) → (Nat → Nat → Int) → List Int → (Nat → Option Nat) → (Nat → Nat → Int) → Int → Prop := fun P G ps P' G' rn => P' = P ∧ G' = G ∧ (rn = 1 ↔ ps.getD 1 0 ≤ ps.getD 0 0 ∧ ps.getD 0 0 ≤ ps.getD 2 0)
theorem zY_in {l : Launch} {w : zk_W} (hW : zh_W w) : zk_metX l w zt_dv zt_TB zK_in (zp_A zp_tA) (zp_B zψD_in) ∧ zk_cok w zt_TB zK_in := by
  sorry
def zφD_mu (B : Nat → Int) (ln tk nl od : Nat) (pi : List (Int × Int)) (cd : yC) : (Nat → Option Nat) → (Nat → Nat → Int) → List Int → Prop := fun _ G ps => zD (zp_0 ps) G 0 B ln tk nl od pi cd
def zψD_mu (B : Nat → Int) (ln tk nl od : Nat) (pi : List (Int × Int)) (cd : yC) : (Nat → Option Nat) → (Nat → Nat → Int) → List Int → (Nat → Option Nat) → (Nat → Nat → Int) → Int → Prop := fun P G ps P' G' rn => P' = P ∧ (ps.getD 1 0 ≠ 1 → zD (zp_0 ps) G' 1 B ln tk nl od pi cd ∧ G' (zp_0 ps) 18 = (zy_fr B ln tk : Int)) ∧ (ps.getD 1 0 = 1 → zD (zp_0 ps) G' 0 B ln (zy_to B ln tk) nl od pi cd)
theorem zY_mu {l : Launch} {w : zk_W} (hW : zh_W w) (B : Nat → Int) (ln tk nl od : Nat) (pi : List (Int × Int)) (cd : yC) : zk_metX l w zt_dv zt_TB zK_mu (zp_A (zφD_mu B ln tk nl od pi cd)) (zp_B (zψD_mu B ln tk nl od pi cd)) ∧ zk_cok w zt_TB zK_mu := by
  sorry
def zφD_nu (B : Nat → Int) (ln tk nl od : Nat) (pi : List (Int × Int)) (cd : yC) : (Nat → Option Nat) → (Nat → Nat → Int) → List Int → Prop := fun _ G ps => zD (zp_0 ps) G 0 B ln tk nl od pi cd
def zψD_nu (B : Nat → Int) (ln tk nl od : Nat) (pi : List (Int × Int)) (cd : yC) : (Nat → Option Nat) → (Nat → Nat → Int) → List Int → (Nat → Option Nat) → (Nat → Nat → Int) → Int → Prop := fun P G ps P' G' rn => P' = P ∧ (¬ (zy_so B ln tk = 2 ∧ ps.getD 1 0 ≤ zy_wo B ln tk ∧ zy_wo B ln tk ≤ ps.getD 2 0) → zD (zp_0 ps) G' 1 B ln tk nl od pi cd ∧ G' (zp_0 ps) 18 = (zy_fr B ln tk : Int)) ∧ ((zy_so B ln tk = 2 ∧ ps.getD 1 0 ≤ zy_wo B ln tk ∧ zy_wo B ln tk ≤ ps.getD 2 0) → zD (zp_0 ps) G' 0 B ln (zy_to B ln tk) nl od pi cd ∧ (-2147483648 ≤ ps.getD 1 0 → ps.getD 2 0 ≤ 2147483647 → rn = zy_wo B ln tk))
theorem zY_nu {l : Launch} {w : zk_W} (hW : zh_W w) (B : Nat → Int) (ln tk nl od : Nat) (pi : List (Int × Int)) (cd : yC) : zk_metX l w zt_dv zt_TB zK_nu (zp_A (zφD_nu B ln tk nl od pi cd)) (zp_B (zψD_nu B ln tk nl od pi cd)) ∧ zk_cok w zt_TB zK_nu := by
  sorry
def zφD_ob (B : Nat → Int) (ln tk nl od : Nat) (pi : List (Int × Int)) (cd : yC) : (Nat → Option Nat) → (Nat → Nat → Int) → List Int → Prop := fun _ G ps => zD (zp_0 ps) G 0 B ln tk nl od pi cd ∧ pi.length < 400
def zψD_ob (B : Nat → Int) (ln tk nl od : Nat) (pi : List (Int × Int)) (cd : yC) : (Nat → Option Nat) → (Nat → Nat → Int) → List Int → (Nat → Option Nat) → (Nat → Nat → Int) → Int → Prop := fun P G ps P' G' rn => P' = P ∧ (8 ≤ od → zD (zp_0 ps) G' 1 B ln tk nl od pi cd ∧ G' (zp_0 ps) 18 = (zy_fr B ln tk : Int)) ∧ (od < 8 → zD (zp_0 ps) G' 0 B ln (zy_to B ln tk) nl (od + 1) ((ps.getD 1 0, 0) :: pi) cd)
theorem zY_ob {l : Launch} {w : zk_W} (hW : zh_W w) (B : Nat → Int) (ln tk nl od : Nat) (pi : List (Int × Int)) (cd : yC) : zk_metX l w zt_dv zt_TB zK_ob (zp_A (zφD_ob B ln tk nl od pi cd)) (zp_B (zψD_ob B ln tk nl od pi cd)) ∧ zk_cok w zt_TB zK_ob := by
  sorry
def zφD_lf (B : Nat → Int) (ln tk nl od : Nat) (pi : List (Int × Int)) (cd : yC) : (Nat → Option Nat) → (Nat → Nat → Int) → List Int → Prop := fun _ G ps => zD (zp_0 ps) G 0 B ln tk nl od pi cd ∧ (ps.getD 1 0 = 1 → cd.2.2 < 400) ∧ nl ≤ 1000
def zψD_lf (B : Nat → Int) (ln tk nl od : Nat) (pi : List (Int × Int)) (cd : yC) : (Nat → Option Nat) → (Nat → Nat → Int) → List Int → (Nat → Option Nat) → (Nat → Nat → Int) → Int → Prop := fun P G ps P' G' rn => P' = P ∧ (¬ (ps.getD 1 0 = 1 ∧ nl < 50) → zD (zp_0 ps) G' 1 B ln tk nl od pi cd ∧ G' (zp_0 ps) 18 = (zy_fr B ln tk : Int)) ∧ (ps.getD 1 0 = 1 ∧ nl < 50 → zD (zp_0 ps) G' 0 B ln (zy_to B ln tk) (nl + 1) od pi (yu cd.1 cd.2.2 (ps.getD 2 0), yu cd.2.1 cd.2.2 (ps.getD 3 0), cd.2.2 + 1))
theorem zY_lf {l : Launch} {w : zk_W} (hW : zh_W w) (B : Nat → Int) (ln tk nl od : Nat) (pi : List (Int × Int)) (cd : yC) : zk_metX l w zt_dv zt_TB zK_lf (zp_A (zφD_lf B ln tk nl od pi cd)) (zp_B (zψD_lf B ln tk nl od pi cd)) ∧ zk_cok w zt_TB zK_lf := by
  sorry
def zφD_nn (pi : List (Int × Int)) : (Nat → Option Nat) → (Nat → Nat → Int) → List Int → Prop := fun _ G ps => zDp (zv G (zp_0 ps) 27) (zv G (zp_0 ps) 28) pi ∧ G (zp_0 ps) 29 = (pi.length : Int) ∧ ∀ e ∈ pi, e.1 ≤ 32
def zψD_nn (pi : List (Int × Int)) : (Nat → Option Nat) → (Nat → Nat → Int) → List Int → (Nat → Option Nat) → (Nat → Nat → Int) → Int → Prop := fun P G ps P' G' rn => P' = P ∧ G' = G ∧ rn = ym_in pi
theorem zY_nn {l : Launch} {w : zk_W} (hW : zh_W w) (pi : List (Int × Int)) : zk_metX l w zt_dv zt_TB zK_nn (zp_A (zφD_nn pi)) (zp_B (zψD_nn pi)) ∧ zk_cok w zt_TB zK_nn := by
  sorry
def zφD_ic (pi : List (Int × Int)) : (Nat → Option Nat) → (Nat → Nat → Int) → List Int → Prop := fun _ G ps => zDp (zv G (zp_0 ps) 27) (zv G (zp_0 ps) 28) pi ∧ G (zp_0 ps) 29 = (pi.length : Int)
def zψD_ic (pi : List (Int × Int)) : (Nat → Option Nat) → (Nat → Nat → Int) → List Int → (Nat → Option Nat) → (Nat → Nat → Int) → Int → Prop := fun P G ps P' G' rn => P' = P ∧ G' = G ∧ (rn = 1 ↔ ym_cd pi = true)
theorem zY_ic {l : Launch} {w : zk_W} (hW : zh_W w) (pi : List (Int × Int)) : zk_metX l w zt_dv zt_TB zK_ic (zp_A (zφD_ic pi)) (zp_B (zψD_ic pi)) ∧ zk_cok w zt_TB zK_ic := by
  sorry
def zφD_pt : (Nat → Option Nat) → (Nat → Nat → Int) → List Int → Prop := fun _ G ps => ∀ k : Nat, k < 9 → zv G (zp_0 ps) 31 k = ywd.getD k 0
def zψD_pt : (Nat → Option Nat) → (Nat → Nat → Int) → List Int → (Nat → Option Nat) → (Nat → Nat → Int) → Int → Prop := fun P G ps P' G' rn => P' = P ∧ G' = G ∧ rn = if G (zp_0 ps) 16 = 1 then ych ywd 1 (G (zp_0 ps) 17) else -1
theorem zY_pt {l : Launch} {w : zk_W} (hW : zh_W w) : zk_metX l w zt_dv zt_TB zK_pt (zp_A zφD_pt) (zp_B zψD_pt) ∧ zk_cok w zt_TB zK_pt := by
  sorry
def zφD_ot : (Nat → Option Nat) → (Nat → Nat → Int) → List Int → Prop := fun _ G ps => ∀ k : Nat, k < 7 → zv G (zp_0 ps) 32 k = ywo.getD k 0
def zψD_ot : (Nat → Option Nat) → (Nat → Nat → Int) → List Int → (Nat → Option Nat) → (Nat → Nat → Int) → Int → Prop := fun P G ps P' G' rn => P' = P ∧ G' = G ∧ rn = if G (zp_0 ps) 16 = 1 then ych ywo 1 (G (zp_0 ps) 17) else -1
theorem zY_ot {l : Launch} {w : zk_W} (hW : zh_W w) : zk_metX l w zt_dv zt_TB zK_ot (zp_A zφD_ot) (zp_B zψD_ot) ∧ zk_cok w zt_TB zK_ot := by
  sorry