/-! part 70: four, feed, settled, image, back -/
theorem zl_congr2 {f g : Nat → Int} {b b' : Nat} (h : zk_law f b) (he : ∀ j, j < 900 → g (b' + j) = f (b + j)) (hb : ∀ c : Nat, c < 12 → ∀ j, 3 ≤ j → j ≤ 6 → f (b + 2 + 8 * c + j) ≤ 400) : zk_law g b' := by
  have h1 : zk_law (fun x => f (x - b' + b)) b' := by
    intro c hc hn
    have e : ∀ j, (fun x => f (x - b' + b)) (b' + j) = f (b + j) := fun j => by show f (b' + j - b' + b) = f (b + j); congr 1; omega
    have e' : ∀ x y, x = y + b' → (fun x => f (x - b' + b)) x = f (b + y) := fun x y hxy => by show f (x - b' + b) = f (b + y); congr 1; omega
    have en : (c : Int) < f (b + 1) := by rw [← e 1]; exact hn
    obtain ⟨h1, h2⟩ := h c hc en
    have q : ∀ i, (fun x => f (x - b' + b)) (b' + 2 + 8 * c + i) = f (b + 2 + 8 * c + i) := fun i => by rw [e' (b' + 2 + 8 * c + i) (2 + 8 * c + i) (by omega)]; congr 1; omega
    have q0 : (fun x => f (x - b' + b)) (b' + 2 + 8 * c) = f (b + 2 + 8 * c) := q 0
    have k1 : (fun k => (fun x => f (x - b' + b)) (b' + 98 + 2 * k)) = fun k => f (b + 98 + 2 * k) := funext fun k => by rw [e' (b' + 98 + 2 * k) (98 + 2 * k) (by omega)]; congr 1; omega
    have k2 : (fun k => (fun x => f (x - b' + b)) (b' + 98 + 2 * k + 1)) = fun k => f (b + 98 + 2 * k + 1) := funext fun k => by rw [e' (b' + 98 + 2 * k + 1) (98 + 2 * k + 1) (by omega)]; congr 1; omega
    rw [q 5, q 6, q0, q 3, q 4, k1, k2]
    exact ⟨h1, h2⟩
  refine zl_congr h1 (fun j hj => ?_) (fun c hc j j1 j2 => ?_)
  · rw [he j hj]
    show f (b + j) = f (b' + j - b' + b)
    congr 1
    omega
  · have := hb c hc j j1 j2
    show f (b' + 2 + 8 * c + j - b' + b) ≤ 400
    rw [show b' + 2 + 8 * c + j - b' + b = b + 2 + 8 * c + j by omega]
    exact this
theorem zl_cp {f g : Nat → Int} {b b' : Nat} (h : zk_laws f b) (he : ∀ j, j < 5580 → g (b' + j) = f (b + j)) (hb : ∀ j, j < 5580 → ∀ P : Nat → Option Nat, zk_ok P (zk_fj zl_T j) (f (b + j)) ∨ True) (hb2 : ∀ j, j < 5580 → ∃ P : Nat → Option Nat, zk_ok P (zk_fj zl_T j) (f (b + j))) : zk_laws g b' := by
  intro k hk
  refine zl_congr2 (h k hk) (fun j hj => ?_) (fun c hc j j1 j2 => ?_)
  · have := he (180 + 900 * k + j) (by omega)
    rw [show b' + 180 + 900 * k + j = b' + (180 + 900 * k + j) by omega, show b + 180 + 900 * k + j = b + (180 + 900 * k + j) by omega]
    exact this
  · obtain ⟨x, lo, hi, y1, y2, -⟩ := zl_rg3 hk hc (j := j) (by omega)
    obtain ⟨P, hz⟩ := hb2 (180 + 900 * k + 2 + (8 * c + j)) (by omega)
    rw [y1] at hz
    have h1 := (zp_int hz).2
    have h2 := (y2 j1 j2).2
    rw [show b + 180 + 900 * k + 2 + 8 * c + j = b + (180 + 900 * k + 2 + (8 * c + j)) by omega]
    omega
noncomputable def zl_T2 : zk_T := zt_types.getD 60 (0, 0, 0, [])
theorem zl_fj2 {j i k : Nat} (hi : i < 5580) (hj : j = 5580 * k + i) : zk_fj zl_T2 j = zk_fj zl_T i := by
  subst hj
  rw [zl_fj hi]
  show (if (zk_f0 zl_T2).1 = 9 then zk_rgn zl_T2.2.2.2.tail ((5580 * k + i) % (zk_f0 zl_T2).2.1) else zk_f0 zl_T2) = _
  rw [if_pos (by decide +kernel), show (zk_f0 zl_T2).2.1 = 5580 from by decide +kernel, show (5580 * k + i) % 5580 = i by omega, show zl_T2.2.2.2.tail = zl_rs from by decide +kernel]
theorem zl_kd2 (j : Nat) : (zk_fj zl_T2 j).1 = 0 := by
  rw [zl_fj2 (i := j % 5580) (k := j / 5580) (by omega) (by omega)]
  exact zl_kd _
theorem zp_ps6 {α β : Type} {R : α → β → Prop} {a1 a2 a3 a4 a5 a6 : α} {bs : List β} (h : zk_all2 R [a1, a2, a3, a4, a5, a6] bs) : ∃ b1 b2 b3 b4 b5 b6, bs = [b1, b2, b3, b4, b5, b6] ∧ R a1 b1 ∧ R a2 b2 ∧ R a3 b3 ∧ R a4 b4 ∧ R a5 b5 ∧ R a6 b6 := by
  obtain ⟨b1, r1, rfl, e1, h1⟩ := zk_all2_cons h
  obtain ⟨b2, r2, rfl, e2, h2⟩ := zk_all2_cons h1
  obtain ⟨b3, r3, rfl, e3, h3⟩ := zk_all2_cons h2
  obtain ⟨b4, b5, b6, rfl, e4, e5, e6⟩ := zp_ps3 h3
  exact ⟨b1, b2, b3, b4, b5, b6, rfl, e1, e2, e3, e4, e5, e6⟩