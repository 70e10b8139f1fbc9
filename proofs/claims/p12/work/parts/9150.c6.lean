/-! part c6: the reference: readExpression, begin, beginText, endText, exactly -/
theorem ylf_tot {ord : Bool} {B : Nat → Int} {ln : Nat} (k n p : Nat) (hp : p ≤ ln) (hk : k ≤ 9) : ∃ s, yZ (zy_so B ln) (zy_wo B ln) (zy_to B ln) (ylf ord B ln) k 0 n p yx0 s ∧ ∀ p1 n1 y, s = Sum.inr (p1, n1, y) → p1 ≤ ln := by
  obtain ⟨s, h1, h2⟩ := yZ_tot (so := zy_so B ln) (wo := zy_wo B ln) (nx := zy_to B ln) (lf := ylf ord B ln) (ln := ln) (fun p h => (zy_to_le h).2.1) (fun p h hs => by have h1 := (zy_to_le (B := B) h).2.2 hs; have h2 := (zy_fr_le (B := B) h).1; omega) (fun p p1 oo aa h hl => by have := ylf_to h hl; exact ⟨this.2.1, this.2.2.2⟩) _ k 0 n p yx0 hp hk (Nat.lt_succ_self _)
  exact ⟨s, h1, fun p1 n1 y h => (h2 p1 n1 y h).1⟩
/-- what a run of the pile tells of the text -/
theorem ym_end {ord : Bool} {B : Nat → Int} {ln : Nat} (test : Bool) {p n : Nat} {c : yC} (hp : p ≤ ln) : ∃ s, yZ (zy_so B ln) (zy_wo B ln) (zy_to B ln) (ylf ord B ln) (if test = true then 8 else 3) 0 n p yx0 s ∧ ∀ g r, ym_run (zy_so B ln) (zy_wo B ln) (zy_to B ln) (ylf ord B ln) test g ((if test = true then 0 else 1), p, n, 0, [], c) = some r → (∀ q, r = Sum.inl q → s = Sum.inl q) ∧ ∀ S, r = Sum.inr S → ∃ p1 n1 y k, s = Sum.inr (p1, n1, y) ∧ S.2.1 = p1 ∧ S.2.2.1 = n1 ∧ (ym_se 1 S.2.2.2.2.1 S.2.2.2.2.2).1 = [] ∧ n1 = n + k ∧ yF c.2.2 c (ym_se 1 S.2.2.2.2.1 S.2.2.2.2.2).2 k y ∧ (test = true → yd_T y) := by
  sorry
theorem ym_run_s {ord : Bool} {B : Nat → Int} {ln : Nat} {test : Bool} {S : yS} {g : Nat} (h4 : S.1 ≠ 4) : ym_run (zy_so B ln) (zy_wo B ln) (zy_to B ln) (ylf ord B ln) test (g + 1) S = ym_go (ym_step (zy_so B ln) (zy_wo B ln) (zy_to B ln) (ylf ord B ln) test S) (ym_run (zy_so B ln) (zy_wo B ln) (zy_to B ln) (ylf ord B ln) test g) := if_neg h4
theorem ym_run_4 {ord : Bool} {B : Nat → Int} {ln : Nat} {test : Bool} {S : yS} (h4 : S.1 = 4) : ym_run (zy_so B ln) (zy_wo B ln) (zy_to B ln) (ylf ord B ln) test 1 S = some (Sum.inr S) := if_pos h4
/-- what comes of an expression -/
def zDe_ (ord : Bool) (a : Nat) (G : Nat → Nat → Int) (B : Nat → Int) (ln tk nl : Nat) (cd : yC) (test : Bool) : Prop := ∃ s, yZ (zy_so B ln) (zy_wo B ln) (zy_to B ln) (ylf ord B ln) (if test = true then 8 else 3) 0 nl tk yx0 s ∧ ((∃ q, s = Sum.inl q ∧ (∃ (tk nl od : Nat) (pi : List (Int × Int)) (cd : yC), zD a G 1 B ln tk nl od pi cd) ∧ G a 18 = (zy_fr B ln q : Int)) ∨ ∃ (p1 n1 : Nat) (y : yD) (k od : Nat) (cd' : yC), s = Sum.inr (p1, n1, y) ∧ n1 = nl + k ∧ n1 ≤ 50 ∧ zD a G 0 B ln p1 n1 od [] cd' ∧ yF cd.2.2 cd cd' k y ∧ cd'.2.2 ≤ zy_fr B ln p1 ∧ (test = true → yd_T y))
theorem zDp_ex {pl pa : Nat → Int} : ∀ n, ∃ L : List (Int × Int), L.length = n ∧ zDp pl pa L
  | 0 => ⟨[], rfl, trivial⟩
  | n + 1 => by
    obtain ⟨L, h1, h2⟩ := zDp_ex (pl := pl) (pa := pa) n
    exact ⟨(pl n, pa n) :: L, by show L.length + 1 = n + 1; omega, by rw [h1], by rw [h1], h2⟩
theorem ym_se_mem {least : Int} {e : Int × Int} : ∀ {pi : List (Int × Int)} {cd : yC}, e ∈ (ym_se least pi cd).1 → e ∈ pi
  | [], cd, h => h
  | (o, t) :: r, cd, h => by
    have h : e ∈ (if least ≤ zbinds o then ym_se least r (ym_e1 o t cd) else ((o, t) :: r, cd)).1 := h
    split at h
    · exact List.mem_cons_of_mem _ (ym_se_mem h)
    · exact h
theorem zDn_in : ∀ {pi : List (Int × Int)}, (∀ e ∈ pi, e.1 ≤ 32 ∧ e.1 ≠ 31) → ym_in pi = 32 ∨ ym_in pi = -1
  | [], _ => Or.inr rfl
  | (o, t) :: r, h => by
    have h1 := h (o, t) List.mem_cons_self
    have h2 : o ≤ 32 := h1.1
    have h3 : o ≠ 31 := h1.2
    have ih := zDn_in (pi := r) (fun e he => h e (List.mem_cons_of_mem _ he))
    show (if 31 ≤ o then o else ym_in r) = 32 ∨ (if 31 ≤ o then o else ym_in r) = -1
    split
    · left
      omega
    · exact ih
theorem zDn_rp {ord : Bool} {B : Nat → Int} {ln : Nat} {p n od : Nat} {pi : List (Int × Int)} {cd : yC} {S : yS} (hn : ∀ e ∈ pi, e.1 ≠ 31) (h : ym_rp (zy_so B ln) (zy_wo B ln) (zy_to B ln) (ylf ord B ln) p n od pi cd = Sum.inr S) : ∀ e ∈ S.2.2.2.2.1, e.1 ≠ 31 := by
  sorry
theorem zDn_bs {B : Nat → Int} {ln : Nat} {tb : Bool} {p n od : Nat} {pi : List (Int × Int)} {cd : yC} {S : yS} (hn : ∀ e ∈ pi, e.1 ≠ 31) (h : ym_bs (zy_so B ln) (zy_wo B ln) (zy_to B ln) tb p n od pi cd = Sum.inr S) : ∀ e ∈ S.2.2.2.2.1, e.1 ≠ 31 := by
  sorry
theorem ym_bs_t {B : Nat → Int} {ln : Nat} {tb : Bool} {p n od p' n' od' : Nat} {pi pi' : List (Int × Int)} {cd cd' : yC} (h31 : ym_in pi = 32 ∨ ym_in pi = -1) (ht : tb = false) (h : ym_bs (zy_so B ln) (zy_wo B ln) (zy_to B ln) tb p n od pi cd = Sum.inr (2, p', n', od', pi', cd')) : False := by
  subst ht
  unfold ym_bs at h
  split at h
  · cases h
  · split at h
    · split at h
      · cases h
      · cases h
    · rename_i h2
      rw [if_pos ⟨by omega, rfl⟩] at h
      cases h
def zφD_ex (ord : Bool) (B : Nat → Int) (ln tk nl od : Nat) (pi : List (Int × Int)) (cd : yC) : (Nat → Option Nat) → (Nat → Nat → Int) → List Int → Prop := fun P G ps => zD (zp_0 ps) G 0 B ln tk nl od pi cd ∧ nl ≤ 50 ∧ cd.2.2 ≤ zy_fr B ln tk ∧ zDw P ord (zp_0 ps) G
def zψD_ex (ord : Bool) (B : Nat → Int) (ln tk nl od : Nat) (pi : List (Int × Int)) (cd : yC) : (Nat → Option Nat) → (Nat → Nat → Int) → List Int → (Nat → Option Nat) → (Nat → Nat → Int) → Int → Prop := fun P G ps P' G' rn => P' = P ∧ zDe_ ord (zp_0 ps) G' B ln tk nl cd (decide (ps.getD 1 0 = 1))
set_option maxHeartbeats 8000000 in
theorem zY_ex {l : Launch} {w : zk_W} (hW : zh_W w) (ord : Bool) (B : Nat → Int) (ln tk nl od : Nat) (pi : List (Int × Int)) (cd : yC) : zk_metX l w zt_dv zt_TB zK_ex (zp_A (zφD_ex ord B ln tk nl od pi cd)) (zp_B (zψD_ex ord B ln tk nl od pi cd)) ∧ zk_cok w zt_TB zK_ex := by
  sorry
def zφD_be (B : Nat → Int) (ln : Nat) : (Nat → Option Nat) → (Nat → Nat → Int) → List Int → Prop := fun _ G ps => G (zp_0 ps) 13 = (ln : Int) ∧ ln ≤ 400 ∧ (∀ j, zv G (zp_0 ps) 12 j = B j) ∧ ∀ j, 0 ≤ B j ∧ B j ≤ 255
def zψD_be (B : Nat → Int) (ln : Nat) : (Nat → Option Nat) → (Nat → Nat → Int) → List Int → (Nat → Option Nat) → (Nat → Nat → Int) → Int → Prop := fun P G ps P' G' rn => P' = P ∧ (∀ k, k ≠ 14 → k ≠ 15 → k ≠ 16 → k ≠ 17 → k ≠ 18 → k ≠ 19 → G' (zp_0 ps) k = G (zp_0 ps) k) ∧ (∀ b j, b ≠ zp_0 ps → G' b j = G b j) ∧ G' (zp_0 ps) 14 = (zy_fr B ln 0 : Int) ∧ G' (zp_0 ps) 15 = (zy_to B ln 0 : Int) ∧ G' (zp_0 ps) 16 = (zy_so B ln 0 : Int) ∧ G' (zp_0 ps) 17 = zy_wo B ln 0 ∧ G' (zp_0 ps) 18 = -1 ∧ G' (zp_0 ps) 19 = 0
set_option maxHeartbeats 8000000 in
theorem zY_be {l : Launch} {w : zk_W} (hW : zh_W w) (B : Nat → Int) (ln : Nat) : zk_metX l w zt_dv zt_TB zK_be (zp_A (zφD_be B ln)) (zp_B (zψD_be B ln)) ∧ zk_cok w zt_TB zK_be := by
  sorry
def zφD_bx (B : Nat → Int) (ln : Nat) : (Nat → Option Nat) → (Nat → Nat → Int) → List Int → Prop := fun P G ps => G (zp_0 ps) 13 = (ln : Int) ∧ ln ≤ 400 ∧ (∀ j, zv G (zp_0 ps) 12 j = B j) ∧ (∀ j, 0 ≤ B j ∧ B j ≤ 255) ∧ 0 ≤ G (zp_0 ps) 30
def zψD_bx (B : Nat → Int) (ln : Nat) : (Nat → Option Nat) → (Nat → Nat → Int) → List Int → (Nat → Option Nat) → (Nat → Nat → Int) → Int → Prop := fun P G ps P' G' rn => P' = P ∧ (∀ k, k ≠ 14 → k ≠ 15 → k ≠ 16 → k ≠ 17 → k ≠ 18 → k ≠ 19 → k ≠ 20 → k ≠ 21 → k ≠ 23 → k ≠ 26 → G' (zp_0 ps) k = G (zp_0 ps) k) ∧ (∀ b j, b ≠ zp_0 ps → G' b j = G b j) ∧ G' (zp_0 ps) 18 = -1 ∧ G' (zp_0 ps) 20 = ps.getD 1 0 ∧ G' (zp_0 ps) 21 = 0 ∧ ∃ (od : Nat) (pi : List (Int × Int)), zD (zp_0 ps) G' 0 B ln 0 0 od pi (fun j => zv G (zp_0 ps) 24 j, fun j => zv G (zp_0 ps) 25 j, 0)
set_option maxHeartbeats 8000000 in
theorem zY_bx {l : Launch} {w : zk_W} (hW : zh_W w) (B : Nat → Int) (ln : Nat) : zk_metX l w zt_dv zt_TB zK_bx (zp_A (zφD_bx B ln)) (zp_B (zψD_bx B ln)) ∧ zk_cok w zt_TB zK_bx := by
  sorry
def zφD_et (bad : Int) (B : Nat → Int) (ln tk nl od : Nat) (pi : List (Int × Int)) (cd : yC) : (Nat → Option Nat) → (Nat → Nat → Int) → List Int → Prop := fun _ G ps => zD (zp_0 ps) G bad B ln tk nl od pi cd
def zψD_et (bad : Int) (B : Nat → Int) (ln tk nl od : Nat) (pi : List (Int × Int)) (cd : yC) : (Nat → Option Nat) → (Nat → Nat → Int) → List Int → (Nat → Option Nat) → (Nat → Nat → Int) → Int → Prop := fun P G ps P' G' rn => P' = P ∧ G' (zp_0 ps) 20 = 0 ∧ G' (zp_0 ps) 13 = 0 ∧ G' (zp_0 ps) 30 = (od : Int) ∧ (bad = 1 → G' (zp_0 ps) 19 = 1 ∧ G' (zp_0 ps) 18 = G (zp_0 ps) 18) ∧ (bad = 0 → (zy_so B ln tk = 0 → G' (zp_0 ps) 19 = 0 ∧ G' (zp_0 ps) 18 = G (zp_0 ps) 18) ∧ (zy_so B ln tk ≠ 0 → G' (zp_0 ps) 19 = 1 ∧ G' (zp_0 ps) 18 = (zy_fr B ln tk : Int)))
set_option maxHeartbeats 8000000 in
theorem zY_et {l : Launch} {w : zk_W} (hW : zh_W w) (bad : Int) (B : Nat → Int) (ln tk nl od : Nat) (pi : List (Int × Int)) (cd : yC) : zk_metX l w zt_dv zt_TB zK_et (zp_A (zφD_et bad B ln tk nl od pi cd)) (zp_B (zψD_et bad B ln tk nl od pi cd)) ∧ zk_cok w zt_TB zK_et := by
  sorry