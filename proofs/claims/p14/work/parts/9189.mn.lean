/-! part mn: fits, little: the same of rows that agree; little, fits as calls; all of the relation over the memory -/
theorem zq_so_q {R R' : Nat → Int} {n np ns : Nat} {L : List yK} {t : Int} (hok : zd_ok R n np) (hq : zQr R R') (hs : zSg R n ns) : ∀ {k : Nat}, k ≤ ns → zq_so R' n np L t k = zq_so R n np L t k
  | 0, _ => rfl
  | k + 1, hk => by
    obtain ⟨s1, s2, s3⟩ := hs
    obtain ⟨⟨g1, g2⟩, g3, g4⟩ := s3 k (by omega)
    have hn := hok.1
    have hx := (zd_hr_q (L := L) (t := t) (h := (R (3 * k + 154)).toNat + 1) hok hq) (R (3 * k + 153)).toNat (by omega)
    rw [zq_so, zq_so, zq_so_q hok hq ⟨s1, s2, s3⟩ (by omega), hq (3 * k + 154) (by omega), hq (3 * k + 153) (by omega), hq (3 * k + 155) (by omega), hx.1]
theorem zq_fi_q {f g : Nat → Bool} (h : ∀ t, f t = g t) : ∀ {k : Nat}, zq_fi f k = zq_fi g k
  | 0 => rfl
  | k + 1 => by rw [zq_fi, zq_fi, h, zq_fi_q h]
theorem zq_li_q {R R' : Nat → Int} {n np : Nat} {L : List yK} {t : Int} {w p : Nat} (hok : zd_ok R n np) (hq : zQr R R') (hw : w < 10) (hp : p < 6) (h0 : 0 ≤ R (3 * p + 13)) : ∀ {r k : Nat}, R (3 * p + 13) + (k : Int) + (r : Int) ≤ 10 → zq_li R' n np L t w p r k = zq_li R n np L t w p r k
  | 0, _, _ => rfl
  | r + 1, k, hb => by
    have hq2 : zQr (yu R (3 * p + 13) (R (3 * p + 13) + (k : Int))) (yu R' (3 * p + 13) (R (3 * p + 13) + (k : Int))) := fun j hj => by
      by_cases c : j = 3 * p + 13
      · rw [c, yu_at, yu_at]
      · rw [yu_ne c, yu_ne c]
        exact hq j hj
    have hx := (zd_hr_q (L := L) (t := t) (h := 24) (zd_ok_l (v := R (3 * p + 13) + (k : Int)) hp (by omega) hok) hq2) w hw
    rw [zq_li, zq_li, zq_li_q hok hq hw hp h0 (r := r) (k := k + 1) (by omega), hq (3 * p + 13) (by omega), hq (5 * w + 41) (by omega)]
    unfold zq_X
    rw [hx.2]
theorem zv_li_q {R R' : Nat → Int} {n np w : Nat} {L : List yK} {t : Int} (hok : zd_ok R n np) (hq : zQr R R') (ho : zOwn R n np) (hw : w < n) : zv_li R' n np L w t = zv_li R n np L w t := by
  have hn := hok.1
  have hnp := hok.2.1
  have h1 := ho w hw
  have e39 := hq (5 * w + 39) (by omega)
  have hp : (R (5 * w + 39)).toNat < 6 := by omega
  have h2 := hok.2.2.2.2.2 (R (5 * w + 39)).toNat (by omega)
  unfold zv_li
  rw [hq (w + 29) (by omega), hq (5 * w + 40) (by omega), e39, hq (3 * (R (5 * w + 39)).toNat + 13) (by omega)]
  rw [zq_li_q hok hq (by omega) hp h2.1 (by omega)]
/-- the relation over the memory -/
noncomputable def zl_R (xa ma : Nat) (P : Nat → Option Nat) (G : Nat → Nat → Int) : Prop := ∃ (A : Nat → Nat) (Y : List (Nat × Nat)) (F : List (Nat × Nat × Nat)) (W : Nat → Nat → Int) (B : Nat → Nat) (V : Nat → Nat → Int), zMVc A Y F W P G ∧ zMc Y F ∧ A 0 = xa ∧ zMVr B V P G ∧ B 0 = ma ∧ zFull A Y F V W
theorem zl_b59 {w : zk_W} {s : State} {P : Nat → Option Nat} {F : Nat → va_E} {H : Heap} (hw : w.1 = zt_types) (h : zk_wt w s P F H) {a : Nat} (hp : P a = some 59) : ∀ j : Nat, j < 5580 → -2147483648 ≤ zp_n F a (2000 + j) ∧ zp_n F a (2000 + j) ≤ 2147483647 := fun j hj => by
  have hT : w.1[59]? = some zl_T := by
    rw [hw]
    exact zl_T59
  obtain ⟨cA, n, f, o1, o2, o3, o4, o5, o6, o7⟩ := zp_iarr (zp_wt.of (xs := []) h) hp hT (Or.inl rfl)
  have o9 : 5580 ≤ n := by
    first | exact o2 | exact o3
  obtain ⟨z, z1, z2⟩ := o5 j (by omega)
  have ez : zp_n F a (2000 + j) = z := by
    unfold zp_n
    rw [o1, zk_rd_i (by omega), z2]
    exact zp_num_mk z1 (by rw [zl_kd j]; decide)
  have h9 := zk_ok.rg z1
  rw [zl_kd j] at h9
  rw [ez]
  exact h9
theorem zF_8 {A : Nat → Nat} {Y : List (Nat × Nat)} {F : List (Nat × Nat × Nat)} {V W W' : Nat → Nat → Int} (hW : ∀ o k, zN8 o → W' o k = W o k) (h : zFull A Y F V W) : zFull A Y F V W' := zF_ask (fun _ _ _ => rfl) (fun o k h1 h2 h3 h4 => hW o k ⟨h1, h2, h3, h4⟩) h
theorem zP_li {A : Nat → Nat} {Y : List (Nat × Nat)} {F : List (Nat × Nat × Nat)} {V W : Nat → Nat → Int} {n1 np : Nat} {Lw : List yK} {p1 p2 : Int} (h : zCo V W n1 np Lw) (he : zEx A Y F V W n1 np) : (if (0 ≤ p1 ∧ p1 < (n1 : Int)) ∧ 0 ≤ p2 ∧ p2 ≤ 12 then zv_li (zRc W 2 50) n1 np Lw p1.toNat p2 else -1) = (if (0 ≤ p1 ∧ p1 < (n1 : Int)) ∧ 0 ≤ p2 ∧ p2 ≤ 12 then zv_li (zRw V) n1 np Lw p1.toNat p2 else -1) := by
  split
  · exact zv_li_q h.2.1.1 (zRr_q h.1) he.2.1.2.1 (by omega)
  · rfl
theorem zP_fi {A : Nat → Nat} {Y : List (Nat × Nat)} {F : List (Nat × Nat × Nat)} {V W : Nat → Nat → Int} {n1 np nu ns nl ln : Nat} {Lw : List yK} (h : zCo V W n1 np Lw) (he : zEx A Y F V W n1 np) (hn : zNum V nu ns nl ln) : zq_fi (fun t => zq_so (zRc W 2 50) n1 np Lw (t : Int) ns) 13 = zq_fi (fun t => zq_so (zRw V) n1 np Lw (t : Int) ns) 13 := zq_fi_q (fun t => zq_so_q h.2.1.1 (zRr_q h.1) (zA_sg h he hn).1 (Nat.le_refl _))
/-- what law asks in the reference -/
theorem zA_lx {A B : Nat → Nat} {Y : List (Nat × Nat)} {F : List (Nat × Nat × Nat)} {V W : Nat → Nat → Int} {n1 np nu ns nl ln ma : Nat} {Lw : List yK} {P : Nat → Option Nat} {G : Nat → Nat → Int} {r : List Int} (m4 : zMVr B V P G) (m5 : B 0 = ma) (h : zCo V W n1 np Lw) (he : zEx A Y F V W n1 np) (hn : zNum V nu ns nl ln) : zφ_13 (fun j => V 12 (2000 + j)) ln P G ((ma : Int) :: r) := by
  have i0 : (0, 13) ∈ zYr := List.mem_of_getElem? (i := 0) rfl
  have g13 : G ma 13 = V 0 13 := by
    rw [← m5]
    exact zMVr_G m4 i0 (Or.inr (by decide))
  have g30 : G ma 30 = V 0 30 := by
    rw [← m5]
    exact zMVr_G m4 i0 (Or.inr (by decide))
  have r12 : G ma 12 = (B 12 : Int) := by
    rw [← m5]
    exact zMVr_F m4 i0 (k := 12) (o' := 12) (by decide)
  have r31 : G ma 31 = (B 31 : Int) := by
    rw [← m5]
    exact zMVr_F m4 i0 (k := 31) (o' := 31) (by decide)
  have r32 : G ma 32 = (B 32 : Int) := by
    rw [← m5]
    exact zMVr_F m4 i0 (k := 32) (o' := 32) (by decide)
  have r33 : G ma 33 = (B 33 : Int) := by
    rw [← m5]
    exact zMVr_F m4 i0 (k := 33) (o' := 33) (by decide)
  obtain ⟨c0, c1, c2, c3⟩ := he.2.2.2.2.2.2
  have hl := hn.2.2.2.1
  refine ⟨?_, fun j => ?_, ?_, ⟨B 31, B 32, ⟨r31, zMVr_P m4 (by decide), fun k hk => ?_⟩, r32, zMVr_P m4 (by decide), fun k hk => ?_⟩, ⟨B 33, r33, zMVr_P m4 (by decide), fun k hk => ?_⟩⟩
  · show (G ma 13).toNat = ln
    rw [g13]
    omega
  · show zv G ma 12 j = V 12 (2000 + j)
    rw [zv_eq r12 j]
    exact zMVr_G m4 (t := 66) (by decide) (Or.inl (by decide))
  · show 0 ≤ G ma 30
    rw [g30]
    exact c0
  · rw [zMVr_G m4 (t := 72) (by decide) (Or.inl (by decide))]
    exact c1 k hk
  · rw [zMVr_G m4 (t := 73) (by decide) (Or.inl (by decide))]
    exact c2 k hk
  · rw [zMVr_G m4 (t := 74) (by decide) (Or.inl (by decide))]
    exact c3 k hk
/-- what orderly asks, tells -/
theorem zA_od {B : Nat → Nat} {V W : Nat → Nat → Int} {n1 np ma : Nat} {Lw : List yK} {P : Nat → Option Nat} {G : Nat → Nat → Int} {r : List Int} (m4 : zMVr B V P G) (m5 : B 0 = ma) (h : zCo V W n1 np Lw) : zφ_odx P G ((ma : Int) :: r) := by
  show G ma 47 = -1
  rw [← m5]
  exact (zMVr_G m4 (t := 13) (List.mem_of_getElem? (i := 0) rfl) (Or.inr (by decide))).trans h.2.2.2.1
theorem zA_o7 {B : Nat → Nat} {V W : Nat → Nat → Int} {n1 np ma : Nat} {Lw : List yK} {P P' : Nat → Option Nat} {G G' : Nat → Nat → Int} {r : List Int} {rn : Int} (m5 : B 0 = ma) (h : zCo V W n1 np Lw) (hB : zψ_odx P G ((ma : Int) :: r) P' G' rn) : G' (B 0) 47 = V 0 47 := by
  rw [m5]
  exact (show G' ma 47 = -1 from hB).trans h.2.2.2.1.symm
