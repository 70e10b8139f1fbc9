/-! part mq: the arrays that the constructors make -/
theorem zl_im {w : zk_W} {s : State} {P : Nat → Option Nat} {F : Nat → va_E} {H : Heap} (hw : w.1 = zt_types) (h : zk_wt w s P F H) {im : Nat} (hp : P im = some 96) : ∀ j, j < 2 → zp_n F im (2000 + j) = -1 := by
  have hT : w.1[96]? = some ((3, 2, 2, [(2, 93, (-1), (-1))]) : zk_T) := by rw [hw]; rfl
  obtain ⟨cA, n, f, o1, o2, o3, o4, o4', o5, o6, o7⟩ := zk_qarr h hp hT rfl
  have o2 : 2 ≤ n := o2
  intro j hj
  obtain ⟨z, z1, z2⟩ := o5 j (by omega)
  rw [zI_num (v := va_rf (f j)) (by rw [o1]; exact zI_rdq (by omega)), z2]
  have z1 : zk_ok P ((2, 93, (-1), (-1)) : zk_F) z := z1
  have e : zp_num (zk_mk 2 z) = z := zp_num_mk z1 (Nat.le_refl 2)
  show zp_num (zk_mk 2 z) = -1
  rw [e]
  have h1 := z1.2.2.1 (by decide)
  have h2 := z1.2.1
  omega
theorem zl_kp0 {w : zk_W} {s : State} {P : Nat → Option Nat} {F : Nat → va_E} {H : Heap} (hw : w.1 = zt_types) (h : zk_wt w s P F H) {a : Nat} (hp : P a = some 97) : ∀ j, j < 2 → zp_n F a (2000 + j) = 0 := by
  have hT : w.1[97]? = some ((4, 2, 2, [(0, 0, 0, 0)]) : zk_T) := by rw [hw]; rfl
  obtain ⟨cA, m, f, o1, o2, o3, o4, o5, o6⟩ := zk_iarr h hp hT (Or.inr rfl)
  have o2 : 2 ≤ m := o2
  intro j hj
  obtain ⟨z, z1, z2⟩ := o5 j (by omega)
  have z1 : zk_ok P ((0, 0, 0, 0) : zk_F) z := z1
  have hz := zp_int z1
  unfold zp_n
  rw [o1, zk_rd_i (by omega), z2]
  exact (zp_num_mk z1 (Nat.zero_le 2)).trans (by omega)
/-- regions that hold noughts but at four places; the last ended at p -/
noncomputable def zl_rzb : Nat → List zk_F → Bool
  | _, [] => true
  | p, f :: r => ((f.1 == 0 && (f.2.2.1 == 0 && f.2.2.2 == 0)) || (f.2.1 == p + 1 && (p == 4 || (p == 6 || (p == 8 || p == 10))))) && zl_rzb f.2.1 r
theorem zl_rz : ∀ (l : List zk_F) (p j : Nat), zl_rzb p l = true → p ≤ j → ¬(j = 4 ∨ j = 6 ∨ j = 8 ∨ j = 10) → (zk_rgn l j).1 = 0 ∧ (zk_rgn l j).2.2.1 = 0 ∧ (zk_rgn l j).2.2.2 = 0
  | [], _, _, _, _, _ => ⟨rfl, rfl, rfl⟩
  | f :: r, p, j, hb, hp, hs => by
    unfold zl_rzb at hb
    simp only [Bool.and_eq_true, Bool.or_eq_true, beq_iff_eq] at hb
    obtain ⟨h1, h2⟩ := hb
    unfold zk_rgn
    by_cases hj : j < f.2.1
    · rw [if_pos hj]
      rcases h1 with ⟨a, b, c⟩ | ⟨a, b⟩
      · exact ⟨a, b, c⟩
      · exfalso
        omega
    · rw [if_neg hj]
      exact zl_rz r f.2.1 j h2 (by omega) hs
theorem zl_r100 : (zk_f0 (zt_types.getD 100 (0, 0, 0, []))).1 = 9 ∧ (zk_f0 (zt_types.getD 100 (0, 0, 0, []))).2.1 = 5580 ∧ zl_rzb 0 (zt_types.getD 100 (0, 0, 0, [])).2.2.2.tail = true := by decide +kernel
theorem zl_row1 {w : zk_W} {s : State} {P : Nat → Option Nat} {F : Nat → va_E} {H : Heap} (hw : w.1 = zt_types) (h : zk_wt w s P F H) {a : Nat} (hp : P a = some 100) (h4 : zp_n F a (2000 + 4) = -1) (h6 : zp_n F a (2000 + 6) = 7) (h8 : zp_n F a (2000 + 8) = 1000) (h10 : zp_n F a (2000 + 10) = -1) : ∀ j, j < 5580 → zp_n F a (2000 + j) = zR0 j := by
  intro j hj
  by_cases hs : j = 4 ∨ j = 6 ∨ j = 8 ∨ j = 10
  · rcases hs with rfl | rfl | rfl | rfl
    · exact h4
    · exact h6
    · exact h8
    · exact h10
  · have hT : zt_types[100]? = some (zt_types.getD 100 (0, 0, 0, [])) := rfl
    obtain ⟨cA, n, f, o1, o2, o3, o4⟩ := zp_arr_n (zp_wt.of (xs := []) h) hw hp hT (by decide +kernel)
    have o2 : 5580 ≤ n := o2
    obtain ⟨z, z1, z2⟩ := o3 j (by omega)
    rw [zR0_0 (by omega), o4 j (by omega)]
    have hf : zk_fj (zt_types.getD 100 (0, 0, 0, [])) j = zk_rgn (zt_types.getD 100 (0, 0, 0, [])).2.2.2.tail j := by
      unfold zk_fj
      rw [if_pos zl_r100.1, zl_r100.2.1, Nat.mod_eq_of_lt hj]
    obtain ⟨e1, e2, e3⟩ := zl_rz _ 0 j zl_r100.2.2 (Nat.zero_le j) hs
    rw [← hf] at e1 e2 e3
    generalize zk_fj (zt_types.getD 100 (0, 0, 0, [])) j = g at z1 z2 e1 e2 e3
    obtain ⟨gk, gt, gl, gh⟩ := g
    dsimp only at e1 e2 e3
    subst e1
    subst e2
    subst e3
    have z2 : Value.int (f j) = .int (Int32.ofInt z) := z2
    rw [Value.int.inj z2, zk_i32 z1.rg]
    exact Int.le_antisymm z1.2.1 z1.1
