/-! part 8av: copyFrom tells -/
theorem zh_methBv {l : Launch} {w : zk_W} (hW : zh_W w) {lk : List zk_L} {KS : List zk_K} {km : List Nat} {lc : List (Nat × Nat × Nat)} {K : zk_K} {pl fuel : Nat} {CL0 : List zk_Ci} {ns : List (Nat × Nat × List (Nat × Int × Nat))} {AL RA : List zk_An} {B : zk_B} (hk2 : zk_Kk K ≠ 2) (hret : K.2.2.2.1 = none) (he0 : zk_e0b (zt_types, lk, zt_dv, KS, km, lc, K) = true) (hb : (zt_cokb pl K && (decide (KS.map (fun K => K.1) = km.map zt_mn) && (lk.all (zt_lkin K.1.cls) && lc.all (zt_lcin K.1.cls)))) = true) (hCL : ∀ q ∈ CL0, decode K.2.1 q.1 = .ok (q.2.1, q.2.2.1)) (hKS : ∀ K' ∈ KS, zh_K l w K')
    (h0 : (zk_go (zh_Es (zt_types, lk, zt_dv, KS, km, lc, K) (zk_Kp K) (zk_Ke K)) (CL0.map (zq_note ns)) (RA ++ AL) none fuel 0 (zk_k0 (zt_types, lk, zt_dv, KS, km, lc, K)) [] 0 0 && AL.all (fun A => A.2.2.2.2.2.2.all (fun t => decide (t.2 < A.2.1.1.length)) && (match zk_lbd A.2.1.1 A.2.2.2.2.2.2 with
    | some b => decide (0 ≤ A.2.2.2.2.2.1 + b)
    | none => false) && zk_go (zh_Es (zt_types, lk, zt_dv, KS, km, lc, K) (zk_Kp K) (zk_Ke K)) (CL0.map (zq_note ns)) (RA ++ AL) (some A.2.2.2.2.2) fuel A.1 A.2.1 A.2.2.1 A.2.2.2.1 A.2.2.2.2.1)) = true)
    (hRA : ∀ A ∈ RA, A.2.2.1 = [] ∧ (none, []) ∈ zk_Ka K ∧ decode K.2.1 A.1 = .ok (.return_, 1) ∧ A.2.2.2.1 ≤ (zk_Kr K).2.2.1 ∧ A.2.2.2.2.1 ≤ (zk_Kr K).2.2.2 ∧ ∀ (P0 : Nat → Option Nat) (G0 : Nat → va_E) (ps N : List Int) (P : Nat → Option Nat) (F : Nat → va_E), zk_all2 (zk_ok P0) (zk_Kp K) ps → (∀ a t, P0 a = some t → P a = some t) → zk_ef (zk_Ke K) ps P0 G0 F → zk_all2 (zk_ok P) A.2.1.1 N → zk_fa A.2.1.1 N P F A.2.1.2.2.1 → zk_pa N ps A.2.1.2.2.2.2.2.1 → B P0 G0 ps P F 0) : zk_metX l w zt_dv zt_TB K zk_tA B ∧ zk_cok w zt_TB K := by
  refine zh_methH hW hk2 he0 hb hKS (fun p e R s m args below meth c Q P0 G0 ps X hx hb hA hps hE hQ H locs ls hG => ?_)
  refine zh_seg (E := (zt_types, lk, zt_dv, KS, km, lc, K)) hx hb hE (zk_all2_len hps).symm (zq_note_ok hCL ns) h0 (fun _ _ h => h) hG trivial (fun A hA => ?_)
  rcases List.mem_append.mp hA with hA | hA
  · refine Or.inr (fun N' P' F' H' locs' ls' sv' hG' hS' => ?_)
    obtain ⟨e1, e3, e4, e5, e6, hB⟩ := hRA A hA
    obtain ⟨⟨c1, c2, c3⟩, c4, c5, c6, c7, c8, c9, c10, c11, c12, c13, c14, c15, c16, c17, c18, c19, y1, y2, y3⟩ := hE [] P0 G0 (zk_Ke K) (zk_Ka K) ps (zk_Kp K) (zk_all2_len hps).symm (fun _ _ h => h)
    rw [e1] at hS'
    cases sv' with
    | cons v rest => exact hS'.elim
    | nil =>
      have hBn := hB P0 G0 ps N' P' F' hps hG'.2.2.2.2.2.2.1 hG'.2.2.2.2.2.2.2.1 hG'.1 hG'.2.2.1 hG'.2.2.2.2.2.2.2.2.2.1
      have fin : ∀ t : State, t.heap = H' → s.WarmedH t.vm → zk_postX w K B P0 G0 ps s t (.returned none) := fun t ht hWm => zk_fin (u := (P0, G0, ps, zk_Ke K, N', K.2.2.1, X)) (K := K) (al := (none, [])) (rn := 0) (X0 := fun _ => True) c8 c7 rfl c19 hG' (by unfold zk_rct; exact if_neg hk2) e3 (fun f h => by cases h) (fun q h => absurd h List.not_mem_nil) (Or.inl ⟨hk2, hBn⟩) t ht hWm
      have hr := c18.2.1
      have hr : meth.sig.returnType = none := hr.trans hret
      refine W.widen e5 e6 ?_
      rw [hQ]
      exact W.vret hx hb hr (fun t ht hWm => fin t ht hWm) hG'.2.2.2.2.2.2.2.2.1.2.2 e4 c18.1
  · exact Or.inl hA
/-- people, works, sights are the other's -/
def zB_cf : zk_B := fun _ G ps _ G' _ => ∀ k, (k = 1 ∨ k = 3 ∨ k = 9 ∨ k = 14 ∨ k = 15) → zp_n G' (zp_0 ps) k = zp_n G (ps.getD 1 0).toNat k
theorem zC_num {F : Nat → va_E} {a k : Nat} {v : Value} (h : zk_rd (F a) k = some v) : zp_n F a k = zp_num v := by
  unfold zp_n
  rw [h]
theorem zC_eq {V : List zk_F} {N : List Int} {P : Nat → Option Nat} {F : Nat → va_E} {A : List (Nat × Nat × zk_S)} (hF : zk_fa V N P F A) {x y a b k r : Nat} (hx : N[x]? = some (a : Int)) (hy : N[y]? = some (b : Int)) (m1 : (x, k, (r, 0)) ∈ A) (m2 : (y, k, (r, 0)) ∈ A) : zp_n F a k = zp_n F b k := by
  obtain ⟨v, hv, sv⟩ := zh_rdf hF m1 hx
  obtain ⟨v2, hv2, sv2⟩ := zh_rdf hF m2 hy
  obtain ⟨f, n, e1, e2, -, e4⟩ := sv
  obtain ⟨f2, n2, g1, g2, -, g4⟩ := sv2
  cases e1.symm.trans g1
  cases e2.symm.trans g2
  rw [zC_num hv, zC_num hv2, e4, g4]
def zR_cf3203 : List zk_An := [(243, ([(0, 0, 0, 0), (1, 0, 0, 0), (2, 0, (-1), (-1)), (2, 93, 0, 0), (2, 10, 0, 0), (0, 0, 0, 6), (0, 0, 0, 10), (0, 0, 0, 8), (0, 0, 0, 6), (0, 0, (-2147483648), 2147483647)], [], [(3, 1, (5, 0)), (4, 1, (5, 0)), (3, 3, (6, 0)), (4, 3, (6, 0)), (3, 9, (7, 0)), (4, 9, (7, 0)), (3, 14, (8, 0)), (4, 14, (8, 0)), (3, 15, (9, 0)), (4, 15, (9, 0))], [], [], [(0, 3), (1, 4)], []), [], 0, 0, ((-1), []))]
theorem zq_3203t {l : Launch} {w : zk_W} (hW : zh_W w) : zk_metX l w zt_dv zt_TB zK_3203 zk_tA zB_cf ∧ zk_cok w zt_TB zK_3203 := zh_methBv hW (lk := [(2, 9, 9, 0, 18), (8, 62, 0, 0, 0), (2, 68, 9, 1, 0), (2, 15, 9, 2, 18), (2, 71, 9, 3, 0), (2, 18, 9, 4, 18), (2, 21, 9, 5, 18), (2, 24, 9, 6, 18), (2, 27, 9, 7, 18), (2, 30, 9, 8, 18), (2, 74, 9, 9, 0), (2, 33, 9, 10, 18), (2, 36, 9, 11, 18), (2, 39, 9, 12, 18), (2, 44, 9, 13, 18), (2, 77, 9, 14, 0), (2, 48, 9, 15, 0), (2, 52, 9, 16, 0), (2, 80, 9, 17, 0), (2, 58, 9, 18, 18)]) (KS := [zK_161]) (km := [80]) (lc := [(0, 83, 80)]) (CL0 := zc_X9_copyFrom) (ns := []) (K := zK_3203) (AL := [(176, ([(0, 0, 0, 0), (1, 0, 0, 0), (2, 0, (-1), (-1)), (2, 93, 0, 0), (2, 10, 0, 0), (0, 0, 0, 6), (2, 51, 0, 0), (2, 50, 0, 0), (2, 49, 0, 0), (0, 0, 0, 8), (2, 48, 0, 0), (2, 47, 0, 0), (2, 46, 0, 0), (2, 45, 0, 0), (2, 44, 0, 0), (0, 0, 0, 10), (2, 43, 0, 0), (0, 0, 0, 6), (2, 42, 0, 0), (2, 51, 0, 0), (2, 50, 0, 0), (2, 49, 0, 0), (2, 48, 0, 0), (2, 47, 0, 0), (2, 46, 0, 0), (2, 45, 0, 0), (2, 44, 0, 0), (2, 43, 0, 0), (2, 42, 0, 0)], [], [(3, 12, (6, 0)), (3, 11, (7, 0)), (3, 10, (8, 0)), (3, 9, (9, 0)), (3, 8, (10, 0)), (3, 7, (11, 0)), (3, 6, (12, 0)), (3, 5, (13, 0)), (3, 4, (14, 0)), (3, 3, (15, 0)), (3, 2, (16, 0)), (3, 1, (17, 0)), (3, 0, (18, 0)), (4, 12, (19, 0)), (4, 11, (20, 0)), (4, 10, (21, 0)), (4, 9, (9, 0)), (4, 8, (22, 0)), (4, 7, (23, 0)), (4, 6, (24, 0)), (4, 5, (25, 0)), (4, 4, (26, 0)), (4, 3, (15, 0)), (4, 2, (27, 0)), (4, 1, (17, 0)), (4, 0, (28, 0))], [], [(2, (5, 0)), (0, (3, 0)), (1, (4, 0))], [(0, 3), (1, 4)], []), [], 0, 0, (6, [((-1), 5)]))]) (RA := zR_cf3203) (fuel := 566) (pl := 1322) (by decide) rfl (by decide +kernel) (by decide +kernel) zd_X9_copyFrom (by
  intro K h
  rw [List.mem_singleton.mp h]
  exact zq_161 hW) (by decide +kernel) (fun A hA => by
  obtain rfl := List.mem_singleton.mp hA
  refine ⟨rfl, List.mem_singleton.mpr rfl, by decide +kernel, Nat.le_refl _, Nat.le_refl _, fun P0 G0 ps N P F hps hext hef a1 a2 a3 => ?_⟩
  obtain ⟨p0, p1, rfl, k0, k1⟩ := zp_ps2 hps
  obtain ⟨a, rfl, ha⟩ := zp_this k0
  obtain ⟨b, rfl, hb⟩ := zp_this k1
  have h3 : N[3]? = some (a : Int) := zh_pa (j := 0) a3 List.mem_cons_self rfl
  have h4 : N[4]? = some (b : Int) := zh_pa (j := 1) a3 (List.mem_cons_of_mem _ List.mem_cons_self) rfl
  have hfr := zp_ef_fr hef
  intro k hk
  show zp_n F a k = zp_n G0 b k
  rcases hk with rfl | rfl | rfl | rfl | rfl
  · exact (zC_eq a2 h3 h4 (List.mem_of_getElem? (i := 0) rfl) (List.mem_of_getElem? (i := 1) rfl)).trans (zp_nf hfr hb rfl)
  · exact (zC_eq a2 h3 h4 (List.mem_of_getElem? (i := 2) rfl) (List.mem_of_getElem? (i := 3) rfl)).trans (zp_nf hfr hb rfl)
  · exact (zC_eq a2 h3 h4 (List.mem_of_getElem? (i := 4) rfl) (List.mem_of_getElem? (i := 5) rfl)).trans (zp_nf hfr hb rfl)
  · exact (zC_eq a2 h3 h4 (List.mem_of_getElem? (i := 6) rfl) (List.mem_of_getElem? (i := 7) rfl)).trans (zp_nf hfr hb rfl)
  · exact (zC_eq a2 h3 h4 (List.mem_of_getElem? (i := 8) rfl) (List.mem_of_getElem? (i := 9) rfl)).trans (zp_nf hfr hb rfl))
def zR_cf3204 : List zk_An := [(243, ([(0, 0, 0, 0), (1, 0, 0, 0), (2, 0, (-1), (-1)), (2, 10, 0, 0), (2, 93, 0, 0), (0, 0, 0, 6), (0, 0, 0, 10), (0, 0, 0, 8), (0, 0, 0, 6), (0, 0, (-2147483648), 2147483647)], [], [(3, 1, (5, 0)), (4, 1, (5, 0)), (3, 3, (6, 0)), (4, 3, (6, 0)), (3, 9, (7, 0)), (4, 9, (7, 0)), (3, 14, (8, 0)), (4, 14, (8, 0)), (3, 15, (9, 0)), (4, 15, (9, 0))], [], [], [(0, 3), (1, 4)], []), [], 0, 0, ((-1), []))]
theorem zq_3204t {l : Launch} {w : zk_W} (hW : zh_W w) : zk_metX l w zt_dv zt_TB zK_3204 zk_tA zB_cf ∧ zk_cok w zt_TB zK_3204 := zh_methBv hW (lk := [(2, 9, 9, 0, 18), (8, 62, 0, 0, 0), (2, 68, 9, 1, 0), (2, 15, 9, 2, 18), (2, 71, 9, 3, 0), (2, 18, 9, 4, 18), (2, 21, 9, 5, 18), (2, 24, 9, 6, 18), (2, 27, 9, 7, 18), (2, 30, 9, 8, 18), (2, 74, 9, 9, 0), (2, 33, 9, 10, 18), (2, 36, 9, 11, 18), (2, 39, 9, 12, 18), (2, 44, 9, 13, 18), (2, 77, 9, 14, 0), (2, 48, 9, 15, 0), (2, 52, 9, 16, 0), (2, 80, 9, 17, 0), (2, 58, 9, 18, 18)]) (KS := [zK_161]) (km := [80]) (lc := [(0, 83, 80)]) (CL0 := zc_X9_copyFrom) (ns := []) (K := zK_3204) (AL := [(176, ([(0, 0, 0, 0), (1, 0, 0, 0), (2, 0, (-1), (-1)), (2, 10, 0, 0), (2, 93, 0, 0), (0, 0, 0, 6), (2, 51, 0, 0), (2, 50, 0, 0), (2, 49, 0, 0), (0, 0, 0, 8), (2, 48, 0, 0), (2, 47, 0, 0), (2, 46, 0, 0), (2, 45, 0, 0), (2, 44, 0, 0), (0, 0, 0, 10), (2, 43, 0, 0), (0, 0, 0, 6), (2, 42, 0, 0), (2, 51, 0, 0), (2, 50, 0, 0), (2, 49, 0, 0), (2, 48, 0, 0), (2, 47, 0, 0), (2, 46, 0, 0), (2, 45, 0, 0), (2, 44, 0, 0), (2, 43, 0, 0), (2, 42, 0, 0)], [], [(3, 12, (6, 0)), (3, 11, (7, 0)), (3, 10, (8, 0)), (3, 9, (9, 0)), (3, 8, (10, 0)), (3, 7, (11, 0)), (3, 6, (12, 0)), (3, 5, (13, 0)), (3, 4, (14, 0)), (3, 3, (15, 0)), (3, 2, (16, 0)), (3, 1, (17, 0)), (3, 0, (18, 0)), (4, 12, (19, 0)), (4, 11, (20, 0)), (4, 10, (21, 0)), (4, 9, (9, 0)), (4, 8, (22, 0)), (4, 7, (23, 0)), (4, 6, (24, 0)), (4, 5, (25, 0)), (4, 4, (26, 0)), (4, 3, (15, 0)), (4, 2, (27, 0)), (4, 1, (17, 0)), (4, 0, (28, 0))], [], [(2, (5, 0)), (0, (3, 0)), (1, (4, 0))], [(0, 3), (1, 4)], []), [], 0, 0, (6, [((-1), 5)]))]) (RA := zR_cf3204) (fuel := 566) (pl := 1322) (by decide) rfl (by decide +kernel) (by decide +kernel) zd_X9_copyFrom (by
  intro K h
  rw [List.mem_singleton.mp h]
  exact zq_161 hW) (by decide +kernel) (fun A hA => by
  obtain rfl := List.mem_singleton.mp hA
  refine ⟨rfl, List.mem_singleton.mpr rfl, by decide +kernel, Nat.le_refl _, Nat.le_refl _, fun P0 G0 ps N P F hps hext hef a1 a2 a3 => ?_⟩
  obtain ⟨p0, p1, rfl, k0, k1⟩ := zp_ps2 hps
  obtain ⟨a, rfl, ha⟩ := zp_this k0
  obtain ⟨b, rfl, hb⟩ := zp_this k1
  have h3 : N[3]? = some (a : Int) := zh_pa (j := 0) a3 List.mem_cons_self rfl
  have h4 : N[4]? = some (b : Int) := zh_pa (j := 1) a3 (List.mem_cons_of_mem _ List.mem_cons_self) rfl
  have hfr := zp_ef_fr hef
  intro k hk
  show zp_n F a k = zp_n G0 b k
  rcases hk with rfl | rfl | rfl | rfl | rfl
  · exact (zC_eq a2 h3 h4 (List.mem_of_getElem? (i := 0) rfl) (List.mem_of_getElem? (i := 1) rfl)).trans (zp_nf hfr hb rfl)
  · exact (zC_eq a2 h3 h4 (List.mem_of_getElem? (i := 2) rfl) (List.mem_of_getElem? (i := 3) rfl)).trans (zp_nf hfr hb rfl)
  · exact (zC_eq a2 h3 h4 (List.mem_of_getElem? (i := 4) rfl) (List.mem_of_getElem? (i := 5) rfl)).trans (zp_nf hfr hb rfl)
  · exact (zC_eq a2 h3 h4 (List.mem_of_getElem? (i := 6) rfl) (List.mem_of_getElem? (i := 7) rfl)).trans (zp_nf hfr hb rfl)
  · exact (zC_eq a2 h3 h4 (List.mem_of_getElem? (i := 8) rfl) (List.mem_of_getElem? (i := 9) rfl)).trans (zp_nf hfr hb rfl))
