/-! part lk: on paper: how long it lasts, what the odds are -/
/-- a row with this life, k days later -/
noncomputable def zy_R (R : Nat → Int) (x : Int) (k : Nat) : Nat → Int := yu (yu R 8 x) 5 (R 5 + (k : Int))
noncomputable def zy_wR (R : Nat → Int) (L : List yK) (t : Int) : Int := zy_we (zg_ew R zd_S0 t (-1) (-1) (-1)) L t
noncomputable def zy_sR (R : Nat → Int) (L : List yK) (t : Int) : Int := zy_sn (zg_ew R zd_S0 t (-1) (-1) (-1)) L t
/-- life behind so many days -/
noncomputable def zy_lf (R : Nat → Int) (L : List yK) (t : Int) : Nat → Int
  | 0 => R 8
  | k + 1 => max 0 (zy_lf R L t k - zy_wR (zy_R R (zy_lf R L t k) k) L t)
/-- the first day behind which there is no life -/
noncomputable def zy_la (R : Nat → Int) (L : List yK) (t : Int) : Nat → Nat → Int
  | 0, _ => -1
  | f + 1, k => if zy_lf R L t (k + 1) = 0 then (k : Int) else zy_la R L t f (k + 1)
noncomputable def zv_la (R : Nat → Int) (L : List yK) (t : Int) : Int := if R 9 = 0 then zy_la R L t 999 0 else 0
/-- parts that are left behind so many days -/
noncomputable def zy_od (R : Nat → Int) (L : List yK) (t : Int) : Nat → Int
  | 0 => 1000000000000
  | k + 1 => zy_od R L t k - zy_od R L t k * zy_sR (zy_R R (zy_lf R L t k) k) L t / 100
theorem zy_wRb {R : Nat → Int} {L : List yK} {t : Int} (h0 : 0 ≤ t) (h1 : t ≤ 12) : 0 ≤ zy_wR R L t ∧ zy_wR R L t ≤ 999 := by
  have hs := zg_sq31 (t := t) ⟨h0, by omega⟩
  unfold zy_wR zy_we
  split <;> omega
theorem zy_sRb {R : Nat → Int} {L : List yK} {t : Int} : 0 ≤ zy_sR R L t ∧ zy_sR R L t ≤ 100 := by
  unfold zy_sR zy_sn
  split <;> omega
theorem zy_lfb {R : Nat → Int} {L : List yK} {t : Int} (h0 : 0 ≤ t) (h1 : t ≤ 12) (hR : 0 ≤ R 8 ∧ R 8 ≤ 9999) : ∀ k : Nat, 0 ≤ zy_lf R L t k ∧ zy_lf R L t k ≤ 9999
  | 0 => hR
  | k + 1 => by
    have ih := zy_lfb (L := L) h0 h1 hR k
    have hw := zy_wRb (R := zy_R R (zy_lf R L t k) k) (L := L) h0 h1
    rw [zy_lf]
    omega
theorem zy_m100 {a b : Int} (ha : 0 ≤ a ∧ a ≤ 1000000000000) (hb : 0 ≤ b ∧ b ≤ 100) : 0 ≤ a * b ∧ a * b ≤ 100000000000000 ∧ 0 ≤ a * b / 100 ∧ a * b / 100 ≤ a := by
  have h1 : 0 ≤ a * b := Int.mul_nonneg ha.1 hb.1
  have h2 : a * b ≤ a * 100 := Int.mul_le_mul_of_nonneg_left hb.2 ha.1
  omega
theorem zy_odb {R : Nat → Int} {L : List yK} {t : Int} : ∀ k : Nat, 0 ≤ zy_od R L t k ∧ zy_od R L t k ≤ 1000000000000
  | 0 => ⟨by show (0 : Int) ≤ 1000000000000; decide, Int.le_refl _⟩
  | k + 1 => by
    have ih := zy_odb (R := R) (L := L) (t := t) k
    have hm := zy_m100 ih (zy_sRb (R := zy_R R (zy_lf R L t k) k) (L := L) (t := t))
    rw [zy_od]
    omega
/-- rows that agree give the same -/
theorem zQr_R {R R' : Nat → Int} {x : Int} {k : Nat} (h : zQr R R') : zQr (zy_R R x k) (zy_R R' x k) := fun j hj => by
  unfold zy_R
  by_cases c5 : j = 5
  · subst c5
    rw [yu_at, yu_at, h 5 (by decide)]
  · rw [yu_ne c5, yu_ne c5]
    by_cases c8 : j = 8
    · subst c8
      rw [yu_at, yu_at]
    · rw [yu_ne c8, yu_ne c8]
      exact h j hj
theorem zy_wR_q {R R' : Nat → Int} {L : List yK} {t : Int} (h : zQr R R') : zy_wR R' L t = zy_wR R L t := by
  unfold zy_wR
  rw [zg_ew_q h (by decide)]
theorem zy_sR_q {R R' : Nat → Int} {L : List yK} {t : Int} (h : zQr R R') : zy_sR R' L t = zy_sR R L t := by
  unfold zy_sR
  rw [zg_ew_q h (by decide)]
theorem zy_lf_q {R R' : Nat → Int} {L : List yK} {t : Int} (h : zQr R R') : ∀ k : Nat, zy_lf R' L t k = zy_lf R L t k
  | 0 => h 8 (by decide)
  | k + 1 => by
    rw [zy_lf, zy_lf, zy_lf_q h k, zy_wR_q (zQr_R h)]
theorem zy_la_q {R R' : Nat → Int} {L : List yK} {t : Int} (h : zQr R R') : ∀ f k : Nat, zy_la R' L t f k = zy_la R L t f k
  | 0, _ => rfl
  | f + 1, k => by
    rw [zy_la, zy_la, zy_lf_q h, zy_la_q h f (k + 1)]
theorem zv_la_q {R R' : Nat → Int} {L : List yK} {t : Int} (h : zQr R R') : zv_la R' L t = zv_la R L t := by
  unfold zv_la
  rw [h 9 (by decide), zy_la_q h]
theorem zy_od_q {R R' : Nat → Int} {L : List yK} {t : Int} (h : zQr R R') : ∀ k : Nat, zy_od R' L t k = zy_od R L t k
  | 0 => rfl
  | k + 1 => by
    rw [zy_od, zy_od, zy_od_q h k, zy_lf_q h, zy_sR_q (zQr_R h)]
