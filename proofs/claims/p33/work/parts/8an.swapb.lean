/-! part 8an: law, orders of the reference for type 13: the tape is empty -/
def zψ_t13 : (Nat → Option Nat) → (Nat → Nat → Int) → List Int → (Nat → Option Nat) → (Nat → Nat → Int) → Int → Prop := fun _ _ ps _ G' _ => G' (zp_0 ps) 13 = 0
theorem zp_sw92B {l : Launch} {w : zk_W} (hW : zh_W w) {K : zk_K} {ψ : (Nat → Option Nat) → (Nat → Nat → Int) → List Int → (Nat → Option Nat) → (Nat → Nat → Int) → Int → Prop} {r : List zk_F} (h : zk_metX l w zt_dv zt_TB K (zp_A zo_z) (zp_B ψ) ∧ zk_cok w zt_TB K) (hψ : ∀ P G ps P' G' rn, ψ P G ps P' G' rn → G' (zp_0 ps) 20 = 0 ∧ G' (zp_0 ps) 13 = 0) (hb : zp_swB K 92 = true) (hp : zk_Kp (zp_swK K 92 13) = (2, 13, 0, 0) :: r) : zk_metX l w zt_dv zt_TB (zp_swK K 92 13) (zp_A zp_tA) (zp_B zψ_t13) ∧ zk_cok w zt_TB (zp_swK K 92 13) := by
  have h2 := zp_swap (φ' := zo_z) (ψ' := zψ_t13) hW (Or.inr ⟨rfl, rfl⟩) h hb (fun P G ps a h0 hp hφ => ⟨fun z => absurd z (by decide), hφ⟩) (fun P G ps P' G' rn a h0 hp hφ hp' h13 hfr hψ2 => ⟨fun _ => by
    have h3 := (hψ _ _ _ _ _ _ hψ2).1
    rw [zp_00 h0] at h3
    exact h3, (hψ _ _ _ _ _ _ hψ2).2⟩)
  exact zp_z13 hW h2 hp
theorem zX_lw13 {l : Launch} {w : zk_W} (hW : zh_W w) : zk_metX l w zt_dv zt_TB (zp_swK zK_lw 92 13) (zp_A zp_tA) (zp_B zψ_t13) ∧ zk_cok w zt_TB (zp_swK zK_lw 92 13) := zp_sw92B hW (zX_lw2 hW) (fun _ _ _ _ _ _ h => h.2) (by decide +kernel) rfl
theorem zX_or13 {l : Launch} {w : zk_W} (hW : zh_W w) : zk_metX l w zt_dv zt_TB (zp_swK zK_or 92 13) (zp_A zp_tA) (zp_B zψ_t13) ∧ zk_cok w zt_TB (zp_swK zK_or 92 13) := zp_sw92B hW (zX_or2 hW) (fun _ _ _ _ _ _ h => h) (by decide +kernel) rfl
