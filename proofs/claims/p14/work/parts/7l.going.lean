/-! part 7l: Going.copyFrom, with what little holds then -/
noncomputable def zp_lkG : List zk_L := zt_lk_WoundTown_Going.map (fun r => r.1)
noncomputable def zp_lcG : List (Nat × Nat × Nat) := zt_lc_WoundTown_Going.map (fun r => r.1)
theorem zp_lkallG : (zp_lkG.all (zt_lkin "WoundTown$Going") && zp_lcG.all (zt_lcin "WoundTown$Going")) = true := by decide +kernel