/-! part 7d: law and orders, for the model of type 13 -/
theorem zp_z13 {l : Launch} {w : zk_W} (hW : zh_W w) {K : zk_K} {B : zk_B} {r : List zk_F} (h : zk_metX l w zt_dv zt_TB K (zp_A zo_z) B ∧ zk_cok w zt_TB K) (hp : zk_Kp K = (2, 13, 0, 0) :: r) : zk_metX l w zt_dv zt_TB K (zp_A zp_tA) B ∧ zk_cok w zt_TB K := by
  refine zp_ofA h (fun P F ps U H hwt hps _ => ?_)
  rw [hp] at hps
  obtain ⟨n, rs, rfl, hn, -⟩ := zk_all2_cons hps
  obtain ⟨a, rfl, hpa⟩ := zp_this hn
  have hr := zp_int (zp_rdf (xs := []) (zp_wt.of hwt) hW.1 hpa (show zp_fd 13 20 = some (12, 0, 0, 0, 0) from rfl) (show (0 : Nat) ≤ 2 by decide)).1
  show zp_n F (zp_0 ((a : Int) :: rs)) 20 = 0
  rw [zp_00 rfl]
  omega