/-! part e0: a_q9 constructor's contract by the checker that tells what stands there at its return -/
section ZE0
variable {p : Program} {l : Launch} {e : Env} {R : Room} {s : State} {m : MethodId} {args : Array Value} {below : List Frame} {meth : Method} {c : Code} {Q : State → Prop}
variable {cc : ByteArray} {w : zk_W} {u : zk_M} {Ts : List Jvm.Cond} {own : String}
theorem zh_finC {K : zk_K} {B : zk_B} {ty_q9 : List zk_T} (hw_q9 : w.1 = ty_q9) (hK_q9 : va_K w.2.2.1 w.2.1 [] s) (hk_q9 : zk_Kk K = 2) (hu_q9 : u.2.2.2.1 = zk_Ke K) (hX_q9 : ∀ q_q9, u.1 q_q9 = none → ¬ (zk_Kk K = 2 ∧ u.2.2.1[0]? = some (q_q9 : Int)) → u.2.2.2.2.2.2 q_q9) {κ : zk_C} {N : List Int} {P : Nat → Option Nat} {F : Nat → va_E} {H : Heap} {locs : List Loc} {ls : Array Slot} (hG_q9 : zk_G w s u κ N P F H locs ls) (hct_q9 : zk_rct ty_q9 K κ = true) (hal_q9 : ((none, []) : zk_A) ∈ zk_Ka K)
    (hB_q9 : ∀ (z_q9 : Nat × Nat × List zk_S) (f_q9 : zk_F) (n_q9 : Nat) (fs_q9 : List Value), κ.2.2.2.1 = [z_q9] → (zk_Kp K)[0]? = some f_q9 → u.2.2.1[0]? = some (n_q9 : Int) → P n_q9 = none → zk_all2 (zk_sv κ.1 N) z_q9.2.2 fs_q9 → B u.1 u.2.1 u.2.2.1 (zk_up P n_q9 (some f_q9.2.1)) (zk_up F n_q9 (.inr (z_q9.2.1, fs_q9))) 0) (t_q9 : State) (ht_q9 : t_q9.heap = H) (hW_q9 : s.WarmedH t_q9.vm) : zk_postX w K B u.1 u.2.1 u.2.2.1 s t_q9 (.returned none) := by
  obtain ⟨h1_q9, h2_q9, h3_q9, h4_q9, h5_q9, h6_q9, h7_q9, h8_q9, h9_q9, h10_q9, h11_q9, h12_q9, h13_q9⟩ := hG_q9
  rw [hu_q9] at h8_q9
  have hbase_q9 : ∀ q_q9, q_q9 < s.heap.size → q_q9 < w.2.2.2.1 → t_q9.heap[q_q9]? = s.heap[q_q9]? := fun q_q9 g1_q9 g2_q9 => by rw [ht_q9]; exact h9_q9.2.1 q_q9 g1_q9 (Nat.not_le.mpr g2_q9)
  unfold zk_rct at hct_q9
  rw [if_pos hk_q9] at hct_q9
  split at hct_q9
  · rename_i z_q9 f_q9 hz_q9 hf_q9
    rw [Bool.and_eq_true] at hct_q9
    obtain ⟨c1_q9, c2_q9⟩ := hct_q9
    split at c2_q9
    · rename_i T hT_q9
      simp only [Bool.and_eq_true, beq_iff_eq] at c2_q9
      obtain ⟨⟨⟨c3_q9, c4_q9⟩, c5_q9⟩, c6_q9⟩ := c2_q9
      have hG0_q9 : zk_G w s u κ N P F H locs ls := ⟨h1_q9, h2_q9, h3_q9, h4_q9, h5_q9, h6_q9, h7_q9, by rw [hu_q9]; exact h8_q9, h9_q9, h10_q9, h11_q9, h12_q9, h13_q9⟩
      rw [hz_q9] at h4_q9
      obtain ⟨n_q9, fs_q9, r1_q9, r2_q9, r3_q9, r4_q9, r5_q9, r6_q9, -⟩ := h4_q9
      obtain ⟨n'_q9, y1_q9, y2_q9⟩ := h10_q9 _ (List.contains_iff_mem.mp c1_q9)
      dsimp only at y1_q9 y2_q9
      rw [r1_q9] at y1_q9
      cases y1_q9
      have hfv_q9 := zk_rfit_ok h1_q9 c5_q9 r6_q9
      have hext_q9 := zk_up_ext (t := f_q9.2.1) r4_q9
      refine ⟨(none, []), hal_q9, 0, zk_up P n_q9 (some f_q9.2.1), zk_up F n_q9 (.inr (z_q9.2.1, fs_q9)), rfl, fun g_q9 hg_q9 => (by cases hg_q9), fun q_q9 h_q9 => absurd h_q9 List.not_mem_nil, ?_, va_K.moved hW_q9.alike hK_q9, fun a_q9 y_q9 ha_q9 => hext_q9 a_q9 y_q9 (h7_q9 a_q9 y_q9 ha_q9), fun a_q9 y_q9 ha_q9 => ?_, by rw [ht_q9]; exact h9_q9.1, hbase_q9, fun q_q9 g1_q9 g2_q9 g3_q9 => ?_, fun _ n2_q9 f2_q9 e1_q9 e2_q9 => ?_, hB_q9 z_q9 f_q9 n_q9 fs_q9 hz_q9 hf_q9 y2_q9 r4_q9 r6_q9⟩
      · rw [ht_q9]
        have hTw_q9 : w.1[f_q9.2.1]? = some T := by rw [hw_q9]; exact hT_q9
        refine (h5_q9.moved hW_q9.alike).add r4_q9 hTw_q9 ?_ r5_q9 r3_q9.1 (zk_rcr_ok hG0_q9 hw_q9 c6_q9 r6_q9 r4_q9)
        unfold zk_el
        rw [c3_q9]
        exact ⟨fs_q9, by rw [c4_q9], zk_all2_imp (fun _ _ q_q9 => q_q9.ext hext_q9) hfv_q9⟩
      · have hne_q9 : a_q9 ≠ n_q9 := by
          intro e
          subst e
          have := h7_q9 a_q9 y_q9 ha_q9
          rw [r4_q9] at this
          cases this
        rw [zk_up_ne hne_q9]
        exact h8_q9 a_q9 y_q9 ha_q9
      · obtain ⟨x1_q9, x2_q9⟩ := h13_q9 q_q9 g1_q9 (hX_q9 q_q9 g2_q9 g3_q9)
        have hne_q9 : q_q9 ≠ n_q9 := by
          intro e
          subst e
          exact g3_q9 ⟨hk_q9, y2_q9⟩
        rw [zk_up_ne hne_q9, ht_q9]
        exact ⟨x1_q9, x2_q9⟩
      · rw [y2_q9] at e1_q9
        have : n2_q9 = n_q9 := by cases e1_q9; omega
        subst this
        rw [hf_q9] at e2_q9
        cases e2_q9
        exact zk_up_self
    · cases c2_q9
  · cases hct_q9
end ZE0
/-- a_q9 constructor, by segments -/
theorem zh_methK {l : Launch} {w : zk_W} (hW_q9 : zh_W w) {lk_q9 : List zk_L} {KS : List zk_K} {km_q9 : List Nat} {lc_q9 : List (Nat × Nat × Nat)} {K : zk_K} {pl_q9 : Nat} {B : zk_B} (he0_q9 : zk_e0b (zt_types, lk_q9, zt_dv, KS, km_q9, lc_q9, K) = true) (hb : (zt_cokb pl_q9 K && (decide (KS.map (fun K => K.1) = km_q9.map zt_mn) && (lk_q9.all (zt_lkin K.1.cls) && lc_q9.all (zt_lcin K.1.cls)))) = true) (hKS_q9 : ∀ K' ∈ KS, zh_K l w K')
    (hJ_q9 : ∀ (p : Program) (e : Env) (R : Room) (s : State) (m : MethodId) (args : Array Value) (below : List Frame) (meth : Method) (c : Code) (Q : State → Prop) (P0 : Nat → Option Nat) (G0 : Nat → va_E) (ps_q9 : List Int) (X : Nat → Prop), p.tables.exec = Jvm.exec → c.code = K.2.1 → zk_all2 (zk_ok P0) (zk_Kp K) ps_q9 → (∀ N' ca_q9, zk_ctx l R s m args meth c w (P0, G0, ps_q9, zk_Ke K, N', K.2.2.1, X) zt_TB K.1.cls zt_TB zt_mn (zt_types, lk_q9, zt_dv, KS, km_q9, lc_q9, K.1, K.2.1, K.2.2.1, K.2.2.2.1, zk_Kk K, zk_Kc K, zk_Kp K, ca_q9, zk_Ke K, zk_Kr K)) → Q = MQ below (fun _ st_q9 o_q9 t_q9 => zk_postX w K B P0 G0 ps_q9 st_q9 t_q9 o_q9) args s (zk_Kr K).2.2.1 (zk_Kr K).2.2.2 (fun q_q9 => w.2.2.2.1 ≤ q_q9) → ∀ (H : Heap) (locs : List Loc) (ls : Array Slot), zk_G w s (P0, G0, ps_q9, zk_Ke K, [], K.2.2.1, X) (zk_k0 (zt_types, lk_q9, zt_dv, KS, km_q9, lc_q9, K)) ([0, 0, -1] ++ ps_q9) P0 G0 H locs ls → W p l e R s m args below meth c H locs 0 0 Q (F0 m 0 ls [])) : zk_metX l w zt_dv zt_TB K zk_tA B ∧ zk_cok w zt_TB K := by
  simp only [Bool.and_eq_true, decide_eq_true_eq] at hb
  obtain ⟨h1_q9, h2_q9, h3_q9, h4_q9⟩ := hb
  have hcok_q9 := zt_cok_ok hW_q9.2.1 h1_q9
  refine ⟨zk_methJ (E := (zt_types, lk_q9, zt_dv, KS, km_q9, lc_q9, K)) (mn := zt_mn) (A := zk_tA) (B := B) he0_q9 hW_q9.1 (zt_dvok hW_q9.2.1) (zt_clsok hW_q9.2.1) zt_good (fun j_q9 K' hj_q9 => hKS_q9 K' (List.mem_of_getElem? hj_q9)) (fun j_q9 K' k_q9 hj_q9 hk_q9 => ?_) hW_q9.2.2.1 (fun s args hZ_q9 hts_q9 q_q9 hq_q9 => zt_lkin_ok hW_q9 (List.all_eq_true.mp h3_q9 q_q9 hq_q9) hZ_q9 hts_q9) (fun s args hZ_q9 hts_q9 q_q9 hq_q9 => zt_lcin_ok hW_q9 (List.all_eq_true.mp h4_q9 q_q9 hq_q9) hZ_q9 hts_q9) hcok_q9 (fun p e R s m args below meth c Q P0 G0 ps_q9 X hx hb hA_q9 hps_q9 hE_q9 hQ_q9 H locs ls hG_q9 => ?_), hcok_q9⟩
  · have e1_q9 : (KS.map (fun K => K.1))[j_q9]? = some K'.1 := by rw [List.getElem?_map, hj_q9]; rfl
    rw [h2_q9, List.getElem?_map, hk_q9] at e1_q9
    exact (Option.some.inj e1_q9).symm
  · exact hJ_q9 p e R s m args below meth c Q P0 G0 ps_q9 X hx hb hps_q9 (fun N' ca_q9 => hE_q9 N' P0 G0 (zk_Ke K) ca_q9 (fun _ _ h_q9 => h_q9)) hQ_q9 H locs ls hG_q9
section ZE0B
variable {p : Program} {l : Launch} {e : Env} {R : Room} {s : State} {m : MethodId} {args : Array Value} {below : List Frame} {meth : Method} {c : Code} {Q : State → Prop}
variable {cc : ByteArray} {w : zk_W} {u : zk_M} {Ts : List Jvm.Cond} {own : String}
variable {lk_q9 : List zk_L} {KS : List zk_K} {km_q9 : List Nat} {lc_q9 : List (Nat × Nat × Nat)} {K : zk_K} {P0 : Nat → Option Nat} {G0 : Nat → va_E} {ps_q9 : List Int} {X : Nat → Prop}
/-- from a_q9 place to marked places -/
theorem zh_segC (hx : p.tables.exec = Jvm.exec) (hb : c.code = cc) (hE_q9 : ∀ N' ca_q9, zk_ctx l R s m args meth c w (P0, G0, ps_q9, zk_Ke K, N', K.2.2.1, X) zt_TB K.1.cls zt_TB zt_mn (zt_types, lk_q9, zt_dv, KS, km_q9, lc_q9, K.1, K.2.1, K.2.2.1, K.2.2.2.1, zk_Kk K, zk_Kc K, zk_Kp K, ca_q9, zk_Ke K, zk_Kr K)) {CL : List zk_Ci} (hCL_q9 : ∀ q_q9 ∈ CL, decode cc q_q9.1 = .ok (q_q9.2.1, q_q9.2.2.1)) {AN : List zk_An} {fuel_q9 pc : Nat} {κ : zk_C} {st_q9 : List zk_S} {cu_q9 su_q9 : Nat}
    (h0_q9 : zk_go (zh_Es (zt_types, lk_q9, zt_dv, KS, km_q9, lc_q9, K) (zk_Kp K) (zk_Ke K)) CL AN none fuel_q9 pc κ st_q9 cu_q9 su_q9 = true)
    {N : List Int} {P : Nat → Option Nat} {F : Nat → va_E} {H : Heap} {locs : List Loc} {ls : Array Slot} {sv_q9 : List Value} (hG_q9 : zk_G w s (P0, G0, ps_q9, zk_Ke K, [], K.2.2.1, X) κ N P F H locs ls) (hS_q9 : zk_all2 (zk_sv κ.1 N) st_q9 sv_q9)
    (hAN_q9 : ∀ A ∈ AN, ∀ (N' : List Int) (P' : Nat → Option Nat) (F' : Nat → va_E) (H' : Heap) (locs'_q9 : List Loc) (ls'_q9 : Array Slot) (sv'_q9 : List Value), zk_G w s (P0, G0, ps_q9, zk_Ke K, [], K.2.2.1, X) A.2.1 N' P' F' H' locs'_q9 ls'_q9 → zk_all2 (zk_sv A.2.1.1 N') A.2.2.1 sv'_q9 → W p l e R s m args below meth c H' locs'_q9 A.2.2.2.1 A.2.2.2.2.1 Q (F0 m A.1 ls'_q9 sv'_q9)) : W p l e R s m args below meth c H locs cu_q9 su_q9 Q (F0 m pc ls sv_q9) := by
  refine zk_seg (u := (P0, G0, ps_q9, zk_Ke K, [], K.2.2.1, X)) (E := zh_Es (zt_types, lk_q9, zt_dv, KS, km_q9, lc_q9, K) (zk_Kp K) (zk_Ke K)) (Ts := zt_TB) (own := K.1.cls) hx hb (fun N' => hE_q9 N' []) rfl hCL_q9 h0_q9 (AL := []) (AN := AN) rfl (fun A hA_q9 => Or.inr (fun N' hl_q9 N2 P2 F2 H2 locs2_q9 ls2_q9 sv2_q9 hG2_q9 hS2_q9 => ?_)) N P F H locs ls sv_q9 hG_q9 hS_q9
  obtain ⟨h1_q9, h2_q9, h3_q9, h4_q9, h5_q9, h6_q9, h7_q9, h8_q9, h9_q9, h10_q9, h11_q9, h12_q9, h13_q9⟩ := hG2_q9
  exact hAN_q9 A hA_q9 N2 P2 F2 H2 locs2_q9 ls2_q9 sv2_q9 ⟨h1_q9, h2_q9, h3_q9, h4_q9, h5_q9, h6_q9, h7_q9, h8_q9, h9_q9, h10_q9, h11_q9, fun i_q9 n_q9 h_q9 => by simp at h_q9, h13_q9⟩ hS2_q9
/-- a_q9 call by a_q9 contract that tells -/
theorem zh_callC (hx : p.tables.exec = Jvm.exec) (hb : c.code = cc) (hE_q9 : ∀ N' ca_q9, zk_ctx l R s m args meth c w (P0, G0, ps_q9, zk_Ke K, N', K.2.2.1, X) zt_TB K.1.cls zt_TB zt_mn (zt_types, lk_q9, zt_dv, KS, km_q9, lc_q9, K.1, K.2.1, K.2.2.1, K.2.2.2.1, zk_Kk K, zk_Kc K, zk_Kp K, ca_q9, zk_Ke K, zk_Kr K)) {K1 : zk_K} {mi_q9 : Nat} {B : zk_B} (hKX_q9 : zk_metX l w zt_dv zt_TB K1 zk_tA B ∧ zk_cok w zt_TB K1) (hmn_q9 : K1.1 = zt_mn mi_q9) {i_q9 : ClassFile.Instr} {len_q9 pc : Nat} {κ : zk_C} {st_q9 : List zk_S} {cu_q9 su_q9 : Nat} {outs_q9 : List zk_O} (hs_q9 : zk_s7 zt_types zt_dv [K1] [mi_q9] lc_q9 (zk_Ke K) (zk_Kr K) 0 i_q9 len_q9 pc κ st_q9 cu_q9 su_q9 = some outs_q9) (hdg_q9 : decode cc pc = .ok (i_q9, len_q9)) {N : List Int} {P : Nat → Option Nat} {F : Nat → va_E} {H : Heap} {locs : List Loc} {ls : Array Slot} {sv_q9 : List Value} (hG_q9 : zk_G w s (P0, G0, ps_q9, zk_Ke K, [], K.2.2.1, X) κ N P F H locs ls) (hS_q9 : zk_all2 (zk_sv κ.1 N) st_q9 sv_q9)
    (kk_q9 : ∀ o_q9 ∈ outs_q9, ∀ (N' : List Int) (P' : Nat → Option Nat) (F' : Nat → va_E) (H' : Heap) (locs'_q9 : List Loc) (ls'_q9 : Array Slot) (sv'_q9 : List Value) (ps1_q9 : List Int) (rn_q9 : Int), zk_all2 (fun (q_q9 : zk_S) (n_q9 : Int) => ∃ k_q9, N[q_q9.1]? = some k_q9 ∧ n_q9 = k_q9 + q_q9.2) (st_q9.take (zk_Kp K1).length).reverse ps1_q9 → B P F ps1_q9 P' F' rn_q9 → (N' = N ∨ N' = N ++ [rn_q9]) → zk_G w s (P0, G0, ps_q9, zk_Ke K, [], K.2.2.1, X) o_q9.2.1 N' P' F' H' locs'_q9 ls'_q9 → zk_all2 (zk_sv o_q9.2.1.1 N') o_q9.2.2.1 sv'_q9 → W p l e R s m args below meth c H' locs'_q9 o_q9.2.2.2.1 o_q9.2.2.2.2 Q (F0 m o_q9.1 ls'_q9 sv'_q9)) : W p l e R s m args below meth c H locs cu_q9 su_q9 Q (F0 m pc ls sv_q9) := by
  obtain ⟨⟨e1_q9, e2_q9, e3_q9⟩, e4_q9, e5_q9, e6_q9, e7_q9, e8_q9, e9_q9, e10_q9, e11_q9, e12_q9, e13_q9, e14_q9, e15_q9, e16_q9, e17_q9, e18_q9, e19_q9, y1_q9, y2_q9, y3_q9⟩ := hE_q9 [] []
  refine zk_s7X_ok (u := (P0, G0, ps_q9, zk_Ke K, [], K.2.2.1, X)) hx hb (Ts := zt_TB) (own := K.1.cls) (TB := zt_TB) (KS := [K1]) (an := 0) (A := zk_tA) (B := B) (km := [mi_q9]) (mn := zt_mn) y1_q9 y2_q9 y3_q9 e1_q9 e4_q9 e6_q9 e7_q9 e8_q9 e9_q9 e14_q9 (fun K' h_q9 => by cases h_q9; exact hKX_q9) (fun j_q9 K' k_q9 h1_q9 h2_q9 => ?_) e17_q9 e13_q9 hs_q9 hdg_q9 hG_q9 hS_q9 (fun K' ps_q9 h_q9 hp_q9 => trivial) (fun o_q9 ho_q9 N' P' F' H' locs'_q9 ls'_q9 sv'_q9 K' ps_q9 rn_q9 h_q9 hp_q9 hB_q9 hN_q9 hG'_q9 hS'_q9 => by cases h_q9; exact kk_q9 o_q9 ho_q9 N' P' F' H' locs'_q9 ls'_q9 sv'_q9 ps_q9 rn_q9 hp_q9 hB_q9 hN_q9 hG'_q9 hS'_q9)
  match j_q9, h1_q9, h2_q9 with
  | 0, h1_q9, h2_q9 => cases h1_q9; cases h2_q9; exact hmn_q9
  | j_q9 + 1, h1_q9, h2_q9 => simp at h1_q9
/-- the constructor's end -/
theorem zh_retC (hx : p.tables.exec = Jvm.exec) (hb : c.code = cc) {B : zk_B} (hE_q9 : ∀ N' ca_q9, zk_ctx l R s m args meth c w (P0, G0, ps_q9, zk_Ke K, N', K.2.2.1, X) zt_TB K.1.cls zt_TB zt_mn (zt_types, lk_q9, zt_dv, KS, km_q9, lc_q9, K.1, K.2.1, K.2.2.1, K.2.2.2.1, zk_Kk K, zk_Kc K, zk_Kp K, ca_q9, zk_Ke K, zk_Kr K)) (hQ_q9 : Q = MQ below (fun _ st_q9 o_q9 t_q9 => zk_postX w K B P0 G0 ps_q9 st_q9 t_q9 o_q9) args s (zk_Kr K).2.2.1 (zk_Kr K).2.2.2 (fun q_q9 => w.2.2.2.1 ≤ q_q9)) (hk2_q9 : zk_Kk K = 2) (hret_q9 : K.2.2.2.1 = none) (hal_q9 : ((none, []) : zk_A) ∈ zk_Ka K) {pc cu_q9 su_q9 : Nat} {κ : zk_C} {N : List Int} {P : Nat → Option Nat} {F : Nat → va_E} {H : Heap} {locs : List Loc} {ls : Array Slot} {sv_q9 : List Value} (hdg_q9 : decode cc pc = .ok (.return_, 1)) (e5_q9 : cu_q9 ≤ (zk_Kr K).2.2.1) (e6_q9 : su_q9 ≤ (zk_Kr K).2.2.2) (hct_q9 : zk_rct zt_types K κ = true) (hG_q9 : zk_G w s (P0, G0, ps_q9, zk_Ke K, [], K.2.2.1, X) κ N P F H locs ls) (hS_q9 : zk_all2 (zk_sv κ.1 N) [] sv_q9)
    (hB_q9 : ∀ (z_q9 : Nat × Nat × List zk_S) (f_q9 : zk_F) (n_q9 : Nat) (fs_q9 : List Value), κ.2.2.2.1 = [z_q9] → (zk_Kp K)[0]? = some f_q9 → ps_q9[0]? = some (n_q9 : Int) → P n_q9 = none → zk_all2 (zk_sv κ.1 N) z_q9.2.2 fs_q9 → B P0 G0 ps_q9 (zk_up P n_q9 (some f_q9.2.1)) (zk_up F n_q9 (.inr (z_q9.2.1, fs_q9))) 0) : W p l e R s m args below meth c H locs cu_q9 su_q9 Q (F0 m pc ls sv_q9) := by
  obtain ⟨⟨c1_q9, c2_q9, c3_q9⟩, c4_q9, c5_q9, c6_q9, c7_q9, c8_q9, c9_q9, c10_q9, c11_q9, c12_q9, c13_q9, c14_q9, c15_q9, c16_q9, c17_q9, c18_q9, c19_q9, y1_q9, y2_q9, y3_q9⟩ := hE_q9 [] (zk_Ka K)
  cases sv_q9 with
  | cons v_q9 r_q9 => exact hS_q9.elim
  | nil =>
    have fin_q9 : ∀ t_q9 : State, t_q9.heap = H → s.WarmedH t_q9.vm → zk_postX w K B P0 G0 ps_q9 s t_q9 (.returned none) := fun t_q9 ht_q9 hWm_q9 => zh_finC (u := (P0, G0, ps_q9, zk_Ke K, [], K.2.2.1, X)) (K := K) c8_q9 c7_q9 hk2_q9 rfl c19_q9 hG_q9 hct_q9 hal_q9 hB_q9 t_q9 ht_q9 hWm_q9
    have hr_q9 : meth.sig.returnType = none := c18_q9.2.1.trans hret_q9
    refine W.widen e5_q9 e6_q9 ?_
    rw [hQ_q9]
    exact W.vret hx hb hr_q9 (fun t_q9 ht_q9 hWm_q9 => fin_q9 t_q9 ht_q9 hWm_q9) hG_q9.2.2.2.2.2.2.2.2.1.2.2 hdg_q9 c18_q9.1
end ZE0B
/-- what is known stays, one more field of an_q9 object besides -/
theorem zh_addf {w : zk_W} {s : State} {u : zk_M} {κ : zk_C} {N : List Int} {P : Nat → Option Nat} {F : Nat → va_E} {H : Heap} {locs : List Loc} {ls : Array Slot} (hG_q9 : zk_G w s u κ N P F H locs ls) {q_q9 : Nat × Nat × zk_S} (hq_q9 : zk_fa1 κ.1 N P F q_q9.1 q_q9.2.1 q_q9.2.2) : zk_G w s u (κ.1, κ.2.1, q_q9 :: κ.2.2.1, κ.2.2.2) N P F H locs ls := by
  obtain ⟨h1_q9, h2_q9, h3_q9, h4_q9, h5_q9, h6_q9, h7_q9, h8_q9, h9_q9, h10_q9, h11_q9, h12_q9, h13_q9⟩ := hG_q9
  exact ⟨h1_q9, h2_q9, fun q'_q9 hq'_q9 => (List.mem_cons.mp hq'_q9).elim (fun e => by rw [e]; exact hq_q9) (fun h_q9 => h3_q9 q'_q9 h_q9), h4_q9, h5_q9, h6_q9, h7_q9, h8_q9, h9_q9, h10_q9, h11_q9, h12_q9, h13_q9⟩
/-- a_q9 number that is known -/
theorem zB_cst {V : List zk_F} {N : List Int} {P : Nat → Option Nat} (hV_q9 : zk_all2 (zk_ok P) V N) {x_q9 t_q9 k_q9 : Nat} {o_q9 n_q9 : Int} {v_q9 : Value} (hv_q9 : zk_sv V N (x_q9, o_q9) v_q9) (hx : V[x_q9]? = some (k_q9, t_q9, n_q9, n_q9)) (hk_q9 : k_q9 ≤ 1) : zp_num v_q9 = n_q9 + o_q9 := by
  obtain ⟨f_q9, n'_q9, e1_q9, e2_q9, e3_q9, e4_q9⟩ := hv_q9
  cases hx.symm.trans e1_q9
  obtain ⟨m, m1_q9, m2_q9⟩ := zk_all2_get hV_q9 hx
  cases m1_q9.symm.trans e2_q9
  have hm_q9 : m = n_q9 := by
    match k_q9, m2_q9, hk_q9 with
    | 0, m2_q9, _ => exact Int.le_antisymm m2_q9.2.1 m2_q9.1
    | 1, m2_q9, _ => exact Int.le_antisymm m2_q9.2.1 m2_q9.1
  rw [e4_q9, ← hm_q9]
  match k_q9, e3_q9, hk_q9 with
  | 0, e3_q9, _ => exact zk_i32 e3_q9
  | 1, e3_q9, _ => exact zk_i64 e3_q9
theorem zB_el {V : List zk_F} {N : List Int} {P : Nat → Option Nat} {F : Nat → va_E} {A : List (Nat × Nat × zk_S)} (hV_q9 : zk_all2 (zk_ok P) V N) (hF_q9 : zk_fa V N P F A) {x_q9 y_q9 r_q9 k_q9 kd_q9 t_q9 : Nat} {c0_q9 o_q9 : Int} (hm_q9 : (x_q9, k_q9, (y_q9, o_q9)) ∈ A) (hx : N[x_q9]? = some (r_q9 : Int)) (hy_q9 : V[y_q9]? = some (kd_q9, t_q9, c0_q9, c0_q9)) (hk_q9 : kd_q9 ≤ 1) : zp_n F r_q9 k_q9 = c0_q9 + o_q9 := by
  obtain ⟨v_q9, hv_q9, sv_q9⟩ := zh_rdf hF_q9 hm_q9 hx
  rw [zC_num hv_q9]
  exact zB_cst hV_q9 sv_q9 hy_q9 hk_q9
theorem zp_n_up {F : Nat → va_E} {n_q9 b_q9 k_q9 : Nat} {x_q9 : va_E} (h_q9 : b_q9 ≠ n_q9) : zp_n (zk_up F n_q9 x_q9) b_q9 k_q9 = zp_n F b_q9 k_q9 := by
  unfold zp_n
  rw [zk_up_ne h_q9]
theorem zp_n_upo {F : Nat → va_E} {n_q9 k_q9 ci_q9 : Nat} {fs_q9 : List Value} {v_q9 : Value} (h_q9 : fs_q9[k_q9]? = some v_q9) : zp_n (zk_up F n_q9 (.inr (ci_q9, fs_q9))) n_q9 k_q9 = zp_num v_q9 := by
  unfold zp_n
  rw [zk_up_self]
  show (match fs_q9[k_q9]? with
  | some v_q9 => zp_num v_q9
  | none => 0) = _
  rw [h_q9]
/-- a_q9 new object: what was there stays -/
theorem zp_n_new {P0 P : Nat → Option Nat} {G0 F : Nat → va_E} {ps_q9 : List Int} {n_q9 : Nat} {x_q9 : va_E} (hef_q9 : zk_ef [] ps_q9 P0 G0 F) (hext_q9 : ∀ a_q9 t_q9, P0 a_q9 = some t_q9 → P a_q9 = some t_q9) (hn_q9 : P n_q9 = none) : ∀ a_q9 t_q9 k_q9, P0 a_q9 = some t_q9 → zp_n (zk_up F n_q9 x_q9) a_q9 k_q9 = zp_n G0 a_q9 k_q9 := fun a_q9 t_q9 k_q9 ha_q9 => by
  have hne_q9 : a_q9 ≠ n_q9 := fun e => by
    have := hext_q9 a_q9 t_q9 ha_q9
    rw [e, hn_q9] at this
    cases this
  rw [zp_n_up hne_q9]
  exact zp_ef_fr hef_q9 a_q9 t_q9 k_q9 ha_q9 (fun ⟨q_q9, q1_q9, _⟩ => absurd q1_q9 List.not_mem_nil)
