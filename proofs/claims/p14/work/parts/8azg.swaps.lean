/-! part 8azg: the reference's law and orders, exactly, for the model of type 13 -/
/-- the bytes of the reference's tape -/
theorem zl_b66 {w : zk_W} {s : State} {P : Nat → Option Nat} {F : Nat → va_E} {H : Heap} (hw : w.1 = zt_types) (h : zk_wt w s P F H) {mt : Nat} (hp : P mt = some 66) : ∀ j : Nat, 0 ≤ zp_n F mt (2000 + j) ∧ zp_n F mt (2000 + j) ≤ 255 := by
  intro j
  by_cases hj : j < 400
  · exact zp_int (zp_ia_rd (zp_wt.of (xs := []) h) hw (Or.inl rfl) (show zp_ia 1 66 = some (400, 0, 0, 0, 255) from rfl) hp hj)
  · have hT : w.1[66]? = some ((1, 400, 400, [(0, 0, 0, 255)]) : zk_T) := by rw [hw]; rfl
    obtain ⟨cA, n, f, o1, o2, o3, -⟩ := zk_iarr h hp hT (Or.inl rfl)
    have o3 : n ≤ 400 := o3
    have hz : zk_rd (F mt) (2000 + j) = none := by
      rw [o1]
      show (if 2000 + j = 1000 then some (Value.int (Int32.ofNat n)) else if 2000 ≤ 2000 + j ∧ 2000 + j - 2000 < n then zk_av (n, Sum.inl f) (2000 + j - 2000) else none) = none
      rw [if_neg (by omega), if_neg (by omega)]
    have e : zp_n F mt (2000 + j) = 0 := by
      unfold zp_n
      rw [hz]
    rw [e]
    exact ⟨by decide, by decide⟩
/-- what law and orders are asked, by the numbers that the memory's types don't tell -/
noncomputable def zφ_13 (B : Nat → Int) (ln : Nat) : (Nat → Option Nat) → (Nat → Nat → Int) → List Int → Prop := fun P G ps => (G (zp_0 ps) 13).toNat = ln ∧ (∀ j, zv G (zp_0 ps) 12 j = B j) ∧ 0 ≤ G (zp_0 ps) 30 ∧ (∃ b31 b32 : Nat, (G (zp_0 ps) 31 = (b31 : Int) ∧ P b31 = some 72 ∧ ∀ k : Nat, k < 9 → G b31 (2000 + k) = ywd.getD k 0) ∧ G (zp_0 ps) 32 = (b32 : Int) ∧ P b32 = some 73 ∧ ∀ k : Nat, k < 7 → G b32 (2000 + k) = ywo.getD k 0) ∧ zDh P (zp_0 ps) G
theorem zs_ty {P : Nat → Option Nat} {a b t : Nat} (ha : P a = some 13) (hb : P b = some t) (h : t ≠ 13) : zk_up P a (some 92) b = some t := by
  have hne : b ≠ a := fun e => by
    rw [e, ha] at hb
    exact h (Option.some.inj hb).symm
  rw [zk_up_ne hne]
  exact hb
theorem zs_w {P : Nat → Option Nat} {a : Nat} {ord : Bool} {G : Nat → Nat → Int} (ha : P a = some 13) (h : zDw P ord a G) : zDw (zk_up P a (some 92)) ord a G := by
  obtain ⟨h0, b31, b32, ⟨h1, h2, h3⟩, h4, h5, h6⟩ := h
  exact ⟨h0, b31, b32, ⟨h1, zs_ty ha h2 (by decide), h3⟩, h4, zs_ty ha h5 (by decide), h6⟩
theorem zs_h {P : Nat → Option Nat} {a : Nat} {G : Nat → Nat → Int} (ha : P a = some 13) (h : zDh P a G) : zDh (zk_up P a (some 92)) a G := by
  obtain ⟨b33, h1, h2, h3⟩ := h
  exact ⟨b33, h1, zs_ty ha h2 (by decide), h3⟩
/-- what the types tell besides -/
theorem zs_13 {w : zk_W} {s : State} {B : Nat → Int} {ln : Nat} {P : Nat → Option Nat} {F : Nat → va_E} {H : Heap} {a : Nat} {rs : List Int} (hw : w.1 = zt_types) (h : zk_wt w s P F H) (ha : P a = some 13) (hφ : zφ_13 B ln P (zp_n F) ((a : Int) :: rs)) : zp_n F a 13 = (ln : Int) ∧ ln ≤ 400 ∧ (∀ j, zv (zp_n F) a 12 j = B j) ∧ (∀ j, 0 ≤ B j ∧ B j ≤ 255) ∧ 0 ≤ zp_n F a 30 ∧ zDw P false a (zp_n F) ∧ zDh P a (zp_n F) := by
  obtain ⟨d1, d2, d3, ⟨b31, b32, d4, d5⟩, d6⟩ := hφ
  have d1 : (zp_n F a 13).toNat = ln := d1
  have d2 : ∀ j, zv (zp_n F) a 12 j = B j := d2
  have r13 := zp_int (zp_rdf (xs := []) (zp_wt.of h) hw ha (show zp_fd 13 13 = some (12, 0, 0, 0, 400) from rfl) (show (0 : Nat) ≤ 2 by decide)).1
  have r20 := zp_int (zp_rdf (xs := []) (zp_wt.of h) hw ha (show zp_fd 13 20 = some (12, 0, 0, 0, 0) from rfl) (show (0 : Nat) ≤ 2 by decide)).1
  obtain ⟨mt, hmt, qmt⟩ := zp_this (zp_rdf (xs := []) (zp_wt.of h) hw ha (show zp_fd 13 12 = some (12, 2, 66, 0, 0) from rfl) (show (2 : Nat) ≤ 2 by decide)).1
  refine ⟨by omega, by omega, d2, fun j => ?_, d3, ⟨?_, b31, b32, d4, d5⟩, d6⟩
  · rw [← d2 j, zv_eq hmt j]
    exact zl_b66 hw h qmt j
  · show zp_n F a 20 = 0
    omega