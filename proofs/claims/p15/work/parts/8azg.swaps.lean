/-! part 8azg: the reference's law and orders, exactly, for the model of type 13 -/
/-- the bytes of the reference's tape -/
theorem zl_b66 {w : zk_W} {s : State} {P : Nat → Option Nat} {F : Nat → va_E} {H : Heap} (hw : w.1 = zt_types) (h : zk_wt w s P F H) {mt : Nat} (hp : P mt = some 66) : ∀ j : Nat, 0 ≤ zp_n F mt (2000 + j) ∧ zp_n F mt (2000 + j) ≤ 255 := by
  intro j
  by_cases hj : j < 400
  · exact zp_int (zp_ia_rd (zp_wt.of (xs := []) h) hw (Or.inl rfl) (show zp_ia 1 66 = some (400, 0, 0, 0, 255) from rfl) hp hj)
  · have hT : w.1[66]? = some ((1, 400, 400, [(0, 0, 0, 255)]) : zk_T) := by rw [hw]; rfl
    obtain ⟨cA, n, f, o1, o2, o3, -⟩ := zk_iarr h hp hT (Or.inl rfl)
    have o3 : n ≤ 400 := o3
    have hz : zk_rd (F mt) (2000 + j) = none := by
      rw [o1]
      show (if 2000 + j = 1000 then some (Value.int (Int32.ofNat n)) else if 2000 ≤ 2000 + j ∧ 2000 + j - 2000 < n then zk_av (n, Sum.inl f) (2000 + j - 2000) else none) = none
      rw [if_neg (by omega), if_neg (by omega)]
    have e : zp_n F mt (2000 + j) = 0 := by
      unfold zp_n
      rw [hz]
    rw [e]
    exact ⟨by decide, by decide⟩
/-- what law and orders are asked, by the numbers that the memory's types don't tell -/
def zφ_13 (B : Nat → Int) (ln : Nat) : (Nat → Option Nat) → (Nat → Nat → Int) → List Int → Prop := fun P G ps => (G (zp_0 ps) 13).toNat = ln ∧ (∀ j, zv G (zp_0 ps) 12 j = B j) ∧ 0 ≤ G (zp_0 ps) 30 ∧ (∃ b31 b32 : Nat, (G (zp_0 ps) 31 = (b31 : Int) ∧ P b31 = some 72 ∧ ∀ k : Nat, k < 9 → G b31 (2000 + k) = ywd.getD k 0) ∧ G (zp_0 ps) 32 = (b32 : Int) ∧ P b32 = some 73 ∧ ∀ k : Nat, k < 7 → G b32 (2000 + k) = ywo.getD k 0) ∧ zDh P (zp_0 ps) G
def zψ_l13 (B : Nat → Int) (ln : Nat) : (Nat → Option Nat) → (Nat → Nat → Int) → List Int → (Nat → Option Nat) → (Nat → Nat → Int) → Int → Prop := fun _ G ps _ G' rn => zDl (zp_0 ps) G G' B ln rn
def zψ_o13 (B : Nat → Int) (ln : Nat) : (Nat → Option Nat) → (Nat → Nat → Int) → List Int → (Nat → Option Nat) → (Nat → Nat → Int) → Int → Prop := fun _ _ ps _ G' rn => zDoq (zp_0 ps) G' B ln rn
theorem zs_ty {P : Nat → Option Nat} {a b t : Nat} (ha : P a = some 13) (hb : P b = some t) (h : t ≠ 13) : zk_up P a (some 92) b = some t := by
  have hne : b ≠ a := fun e => by
    rw [e, ha] at hb
    exact h (Option.some.inj hb).symm
  rw [zk_up_ne hne]
  exact hb
theorem zs_w {P : Nat → Option Nat} {a : Nat} {ord : Bool} {G : Nat → Nat → Int} (ha : P a = some 13) (h : zDw P ord a G) : zDw (zk_up P a (some 92)) ord a G := by
  obtain ⟨h0, b31, b32, ⟨h1, h2, h3⟩, h4, h5, h6⟩ := h
  exact ⟨h0, b31, b32, ⟨h1, zs_ty ha h2 (by decide), h3⟩, h4, zs_ty ha h5 (by decide), h6⟩
theorem zs_h {P : Nat → Option Nat} {a : Nat} {G : Nat → Nat → Int} (ha : P a = some 13) (h : zDh P a G) : zDh (zk_up P a (some 92)) a G := by
  obtain ⟨b33, h1, h2, h3⟩ := h
  exact ⟨b33, h1, zs_ty ha h2 (by decide), h3⟩
theorem zs_t {P : Nat → Option Nat} {a : Nat} {G : Nat → Nat → Int} (ha : P a = some 13) (h : zDt P a G) : zDt (zk_up P a (some 92)) a G := by
  obtain ⟨b12, b24, b25, b27, b28, ⟨⟨e12, p12⟩, ⟨e24, p24⟩, e25, p25⟩, ⟨e27, p27⟩, e28, p28⟩ := h
  exact ⟨b12, b24, b25, b27, b28, ⟨⟨e12, zs_ty ha p12 (by decide)⟩, ⟨e24, zs_ty ha p24 (by decide)⟩, e25, zs_ty ha p25 (by decide)⟩, ⟨e27, zs_ty ha p27 (by decide)⟩, e28, zs_ty ha p28 (by decide)⟩
/-- what the types tell besides -/
theorem zs_13 {w : zk_W} {s : State} {B : Nat → Int} {ln : Nat} {P : Nat → Option Nat} {F : Nat → va_E} {H : Heap} {a : Nat} {rs : List Int} (hw : w.1 = zt_types) (h : zk_wt w s P F H) (ha : P a = some 13) (hφ : zφ_13 B ln P (zp_n F) ((a : Int) :: rs)) : zp_n F a 13 = (ln : Int) ∧ ln ≤ 400 ∧ (∀ j, zv (zp_n F) a 12 j = B j) ∧ (∀ j, 0 ≤ B j ∧ B j ≤ 255) ∧ 0 ≤ zp_n F a 30 ∧ zDw P false a (zp_n F) ∧ zDh P a (zp_n F) := by
  obtain ⟨d1, d2, d3, ⟨b31, b32, d4, d5⟩, d6⟩ := hφ
  have d1 : (zp_n F a 13).toNat = ln := d1
  have d2 : ∀ j, zv (zp_n F) a 12 j = B j := d2
  have r13 := zp_int (zp_rdf (xs := []) (zp_wt.of h) hw ha (show zp_fd 13 13 = some (12, 0, 0, 0, 400) from rfl) (show (0 : Nat) ≤ 2 by decide)).1
  have r20 := zp_int (zp_rdf (xs := []) (zp_wt.of h) hw ha (show zp_fd 13 20 = some (12, 0, 0, 0, 0) from rfl) (show (0 : Nat) ≤ 2 by decide)).1
  obtain ⟨mt, hmt, qmt⟩ := zp_this (zp_rdf (xs := []) (zp_wt.of h) hw ha (show zp_fd 13 12 = some (12, 2, 66, 0, 0) from rfl) (show (2 : Nat) ≤ 2 by decide)).1
  refine ⟨by omega, by omega, d2, fun j => ?_, d3, ⟨?_, b31, b32, d4, d5⟩, d6⟩
  · rw [← d2 j, zv_eq hmt j]
    exact zl_b66 hw h qmt j
  · show zp_n F a 20 = 0
    omega
theorem zs_t13 {w : zk_W} {s : State} {P : Nat → Option Nat} {F : Nat → va_E} {H : Heap} {a : Nat} (hw : w.1 = zt_types) (h : zk_wt w s P F H) (ha : P a = some 13) : zDt P a (zp_n F) := by
  obtain ⟨b12, e12, p12⟩ := zp_this (zp_rdf (xs := []) (zp_wt.of h) hw ha (show zp_fd 13 12 = some (12, 2, 66, 0, 0) from rfl) (show (2 : Nat) ≤ 2 by decide)).1
  obtain ⟨b24, e24, p24⟩ := zp_this (zp_rdf (xs := []) (zp_wt.of h) hw ha (show zp_fd 13 24 = some (12, 2, 68, 0, 0) from rfl) (show (2 : Nat) ≤ 2 by decide)).1
  obtain ⟨b25, e25, p25⟩ := zp_this (zp_rdf (xs := []) (zp_wt.of h) hw ha (show zp_fd 13 25 = some (12, 2, 69, 0, 0) from rfl) (show (2 : Nat) ≤ 2 by decide)).1
  obtain ⟨b27, e27, p27⟩ := zp_this (zp_rdf (xs := []) (zp_wt.of h) hw ha (show zp_fd 13 27 = some (12, 2, 70, 0, 0) from rfl) (show (2 : Nat) ≤ 2 by decide)).1
  obtain ⟨b28, e28, p28⟩ := zp_this (zp_rdf (xs := []) (zp_wt.of h) hw ha (show zp_fd 13 28 = some (12, 2, 71, 0, 0) from rfl) (show (2 : Nat) ≤ 2 by decide)).1
  exact ⟨b12, b24, b25, b27, b28, ⟨⟨e12, p12⟩, ⟨e24, p24⟩, e25, p25⟩, ⟨e27, p27⟩, e28, p28⟩
theorem zY_lw13 {l : Launch} {w : zk_W} (hW : zh_W w) (B : Nat → Int) (ln : Nat) : zk_metX l w zt_dv zt_TB (zp_swK zK_lw 92 13) (zp_A (zφ_13 B ln)) (zp_B (zψ_l13 B ln)) ∧ zk_cok w zt_TB (zp_swK zK_lw 92 13) := by
  have h2 := zp_swap (l := l) (φ' := zφD_lw B ln) (ψ' := zψ_l13 B ln) hW (Or.inr ⟨rfl, rfl⟩) (zY_lw hW B ln) (by decide +kernel) (fun P G ps a h0 hp hφ => ⟨fun z => absurd z (by decide), by
    have e0 : zp_0 ps = a := zp_00 h0
    unfold zφD_lw at hφ ⊢
    rw [e0] at hφ ⊢
    obtain ⟨c1, c2, c3, c4, c5, c6, c7⟩ := hφ
    exact ⟨c1, c2, c3, c4, c5, zs_w hp c6, zs_h hp c7⟩⟩) (fun P G ps P' G' rn a h0 hp hφ hp' h13 hfr hψ2 => ⟨fun _ => by
    have h3 := hψ2.2.2.2.1
    rw [zp_00 h0] at h3
    exact h3, hψ2.2⟩)
  refine zp_ofA h2 (fun P F ps U H hwt hps hφ => ?_)
  have hps : zk_all2 (zk_ok P) [(2, 13, 0, 0)] ps := hps
  obtain ⟨n, rs, rfl, hn, -⟩ := zk_all2_cons hps
  obtain ⟨a, rfl, hpa⟩ := zp_this hn
  exact zs_13 hW.1 hwt hpa hφ
theorem zY_or13 {l : Launch} {w : zk_W} (hW : zh_W w) (B : Nat → Int) (ln : Nat) : zk_metX l w zt_dv zt_TB (zp_swK zK_or 92 13) (zp_A (zφ_13 B ln)) (zp_B (zψ_o13 B ln)) ∧ zk_cok w zt_TB (zp_swK zK_or 92 13) := by
  have h2 := zp_swap (l := l) (φ' := zφD_oq B ln) (ψ' := zψ_o13 B ln) hW (Or.inr ⟨rfl, rfl⟩) (zY_oq hW B ln) (by decide +kernel) (fun P G ps a h0 hp hφ => ⟨fun z => absurd z (by decide), by
    have e0 : zp_0 ps = a := zp_00 h0
    unfold zφD_oq at hφ ⊢
    rw [e0] at hφ ⊢
    obtain ⟨c1, c2, c3, c4, c5, c6, c7⟩ := hφ
    exact ⟨c1, c2, c3, c4, c5, zs_w hp c6, zs_t hp c7⟩⟩) (fun P G ps P' G' rn a h0 hp hφ hp' h13 hfr hψ2 => ⟨fun _ => by
    have h3 := hψ2.1
    rw [zp_00 h0] at h3
    exact h3, hψ2.2⟩)
  refine zp_ofA h2 (fun P F ps U H hwt hps hφ => ?_)
  have hps : zk_all2 (zk_ok P) [(2, 13, 0, 0)] ps := hps
  obtain ⟨n, rs, rfl, hn, -⟩ := zk_all2_cons hps
  obtain ⟨a, rfl, hpa⟩ := zp_this hn
  obtain ⟨c1, c2, c3, c4, c5, c6, c7⟩ := zs_13 hW.1 hwt hpa hφ
  exact ⟨c1, c2, c3, c4, c5, c6, zs_t13 hW.1 hwt hpa⟩
