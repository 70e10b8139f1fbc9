/-! part 7d: law and orders, for the model of type 13 -/
theorem zp_z13 {l : Launch} {w : zk_W} (hW : zh_W w) {K : zk_K} {B : zk_B} {r : List zk_F} (h : zk_metX l w zt_dv zt_TB K (zp_A zo_z) B ∧ zk_cok w zt_TB K) (hp : zk_Kp K = (2, 13, 0, 0) :: r) : zk_metX l w zt_dv zt_TB K (zp_A zp_tA) B ∧ zk_cok w zt_TB K := by
  refine zp_ofA h (fun P F ps U H hwt hps _ => ?_)
  rw [hp] at hps
  obtain ⟨n, rs, rfl, hn, -⟩ := zk_all2_cons hps
  obtain ⟨a, rfl, hpa⟩ := zp_this hn
  have hr := zp_int (zp_rdf (xs := []) (zp_wt.of hwt) hW.1 hpa (show zp_fd 13 20 = some (12, 0, 0, 0, 0) from rfl) (show (0 : Nat) ≤ 2 by decide)).1
  show zp_n F (zp_0 ((a : Int) :: rs)) 20 = 0
  rw [zp_00 rfl]
  omega
theorem zp_sw92 {l : Launch} {w : zk_W} (hW : zh_W w) {K : zk_K} {ψ : (Nat → Option Nat) → (Nat → Nat → Int) → List Int → (Nat → Option Nat) → (Nat → Nat → Int) → Int → Prop} {r : List zk_F} (h : zk_metX l w zt_dv zt_TB K (zp_A zo_z) (zp_B ψ) ∧ zk_cok w zt_TB K) (hψ : ∀ P G ps P' G' rn, ψ P G ps P' G' rn → G' (zp_0 ps) 20 = 0) (hb : zp_swB K 92 = true) (hp : zk_Kp (zp_swK K 92 13) = (2, 13, 0, 0) :: r) : zh_K l w (zp_swK K 92 13) := by
  have h2 := zp_swap (φ' := zo_z) (ψ' := zp_tB) hW (Or.inr ⟨rfl, rfl⟩) h hb (fun P G ps a h0 hp hφ => ⟨fun z => absurd z (by decide), hφ⟩) (fun P G ps P' G' rn a h0 hp hφ hp' h13 hfr hψ2 => ⟨fun _ => by
    have h3 := hψ _ _ _ _ _ _ hψ2
    rw [zp_00 h0] at h3
    exact h3, trivial⟩)
  exact zp_z13 hW h2 hp
theorem zq_law {l : Launch} {w : zk_W} (hW : zh_W w) : zh_K l w (zp_swK zK_lw 92 13) := zp_sw92 hW (zX_lw hW) (fun _ _ _ _ _ _ h => h.2) (by decide +kernel) rfl
theorem zq_orders {l : Launch} {w : zk_W} (hW : zh_W w) : zh_K l w (zp_swK zK_or 92 13) := zp_sw92 hW (zX_or hW) (fun _ _ _ _ _ _ h => h) (by decide +kernel) rfl
