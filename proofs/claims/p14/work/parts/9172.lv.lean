/-! part lv: the town as it goes and the one that a play goes with change places -/
noncomputable def zs7 (o : Nat) : Nat := if o = 2 then 7 else if o = 7 then 2 else if 50 ≤ o ∧ o < 53 then o + 3 else if 53 ≤ o ∧ o < 56 then o - 3 else o
noncomputable def zsw (W : Nat → Nat → Int) : Nat → Nat → Int := fun o k => W (zs7 o) k
theorem zs7_i {o : Nat} (h : o ≠ 2 ∧ o ≠ 7 ∧ (o < 50 ∨ 56 ≤ o)) : zs7 o = o := by
  unfold zs7
  rw [if_neg h.1, if_neg h.2.1, if_neg (by omega), if_neg (by omega)]
theorem zs7_7 (o : Nat) : zs7 (zs7 o) = o := by
  unfold zs7
  repeat' split
  all_goals omega
theorem zsw_sw {W : Nat → Nat → Int} : zsw (zsw W) = W := by
  funext o k
  show W (zs7 (zs7 o)) k = W o k
  rw [zs7_7]
theorem zsw_set {W : Nat → Nat → Int} {o k : Nat} {v : Int} : zsw (zp_set W (zs7 o) k v) = zp_set (zsw W) o k v := by
  funext o' k'
  by_cases h : o' = o
  · rw [h]
    by_cases h2 : k' = k
    · rw [h2]
      show zp_set W (zs7 o) k v (zs7 o) k = zp_set (zsw W) o k v o k
      rw [zp_set_self, zp_set_self]
    · show zp_set W (zs7 o) k v (zs7 o) k' = zp_set (zsw W) o k v o k'
      rw [zp_set_ne (Or.inr h2), zp_set_ne (Or.inr h2)]
      rfl
  · show zp_set W (zs7 o) k v (zs7 o') k' = zp_set (zsw W) o k v o' k'
    rw [zp_set_ne (Or.inl (fun e => h (by rw [← zs7_7 o', e, zs7_7]))), zp_set_ne (Or.inl h)]
    rfl
theorem zRc_sw {W : Nat → Nat → Int} : zRc (zsw W) 2 50 = zRc W 7 53 := by
  funext j
  have e1 : zsw W (32 + (j - 39) % 5) = W (32 + (j - 39) % 5) := by
    funext k
    show W (zs7 (32 + (j - 39) % 5)) k = W (32 + (j - 39) % 5) k
    rw [zs7_i (by omega)]
  have e2 : zsw W (37 + (j - 153) % 3) = W (37 + (j - 153) % 3) := by
    funext k
    show W (zs7 (37 + (j - 153) % 3)) k = W (37 + (j - 153) % 3) k
    rw [zs7_i (by omega)]
  unfold zRc
  rw [e1, e2]
  rfl
theorem zRr_sw {V W : Nat → Nat → Int} : zRr V (zsw W) ↔ ∀ j, j < 180 → zRc W 7 53 j = V 3 (2000 + j) := by
  unfold zRr
  rw [zRc_sw]
