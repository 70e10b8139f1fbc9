/-! part e2: the constructors tell -/
noncomputable def zR_m : zk_An := (470, ([(0, 0, 0, 0), (1, 0, 0, 0), (2, 0, (-1), (-1)), (3, 102, 0, 0), (2, 115, 0, 0), (2, 100, 0, 0), (2, 60, 0, 0), (2, 97, 0, 0), (2, 62, 0, 0), (2, 63, 0, 0), (2, 64, 0, 0), (2, 65, 0, 0), (2, 116, 0, 0), (2, 67, 0, 0), (2, 68, 0, 0), (2, 69, 0, 0), (2, 70, 0, 0), (2, 71, 0, 0), (2, 72, 0, 0), (1, 0, 21678547, 21678547), (1, 0, 17292466, 17292466), (1, 0, 278194, 278194), (1, 0, 542723566, 542723566), (1, 0, 15660, 15660), (1, 0, 412766597, 412766597), (1, 0, 402629, 402629), (1, 0, 4153, 4153), (1, 0, 441828, 441828), (2, 73, 0, 0), (1, 0, 4153, 4153), (1, 0, 21678547, 21678547), (1, 0, 402629, 402629), (1, 0, 146885, 146885), (1, 0, 5705892, 5705892), (1, 0, 412766597, 412766597), (1, 0, 398548, 398548), (2, 74, 0, 0), (1, 0, 611795, 611795), (1, 0, 654480531, 654480531), (1, 0, 24282707, 24282707), (1, 0, 20383251, 20383251), (1, 0, 67155, 67155), (2, 75, 0, 0), (2, 76, 0, 0), (2, 77, 0, 0), (2, 78, 0, 0), (2, 79, 0, 0), (2, 80, 0, 0), (2, 81, 0, 0), (2, 82, 0, 0), (2, 83, 0, 0), (2, 84, 0, 0), (2, 85, 0, 0), (2, 86, 0, 0), (2, 87, 0, 0), (2, 88, 0, 0), (2, 89, 0, 0), (2, 90, 0, 0), (2, 91, 0, 0)], [], [(5, 2004, (0, (-1))), (5, 2006, (0, 7)), (5, 2008, (0, 1000)), (5, 2010, (0, (-1))), (18, 2000, (19, 0)), (18, 2001, (20, 0)), (18, 2002, (21, 0)), (18, 2003, (22, 0)), (18, 2004, (23, 0)), (18, 2005, (24, 0)), (18, 2006, (25, 0)), (18, 2007, (26, 0)), (18, 2008, (27, 0)), (28, 2000, (29, 0)), (28, 2001, (30, 0)), (28, 2002, (31, 0)), (28, 2003, (32, 0)), (28, 2004, (33, 0)), (28, 2005, (34, 0)), (28, 2006, (35, 0)), (36, 2000, (37, 0)), (36, 2001, (38, 0)), (36, 2002, (39, 0)), (36, 2003, (40, 0)), (36, 2004, (41, 0))], [(3, 12, [(0, 0), (0, 0), (4, 0), (5, 0), (6, 0), (7, 0), (8, 0), (9, 0), (0, 0), (10, 0), (11, 0), (0, 0), (12, 0), (0, 0), (0, 0), (0, 0), (0, 0), (1, 0), (0, (-1)), (0, 0), (0, 0), (0, 0), (13, 0), (0, 0), (14, 0), (15, 0), (0, 0), (16, 0), (17, 0), (0, 0), (0, 0), (18, 0), (28, 0), (36, 0), (0, 0), (42, 0), (43, 0), (44, 0), (0, 0), (1, 0), (1, 0), (45, 0), (46, 0), (47, 0), (48, 0), (49, 0), (50, 0), (0, (-1)), (51, 0), (0, 0), (52, 0), (53, 0), (54, 0), (0, 0), (55, 0), (56, 0), (57, 0), (0, 0), (0, 0), (0, (-1)), (0, 0), (1, 0), (58, 0), (0, (-1))])], [], [(0, 3)], []), [], 34, 21139, ((-1), []))
/-- what the reference's constructor lays: the row, words, heads -/
noncomputable def zB_m : zk_B := fun P G ps P' F' _ => (∀ a t k, P a = some t → zp_n F' a k = zp_n G a k) ∧ (∃ b3 : Nat, zp_n F' (zp_0 ps) 3 = (b3 : Int) ∧ P' b3 = some 100 ∧ zp_n F' b3 (2000 + 4) = -1 ∧ zp_n F' b3 (2000 + 6) = 7 ∧ zp_n F' b3 (2000 + 8) = 1000 ∧ zp_n F' b3 (2000 + 10) = -1) ∧ (∃ b31 : Nat, zp_n F' (zp_0 ps) 31 = (b31 : Int) ∧ P' b31 = some 72 ∧ ∀ k : Nat, k < 9 → zp_n F' b31 (2000 + k) = ywd.getD k 0) ∧ (∃ b32 : Nat, zp_n F' (zp_0 ps) 32 = (b32 : Int) ∧ P' b32 = some 73 ∧ ∀ k : Nat, k < 7 → zp_n F' b32 (2000 + k) = ywo.getD k 0) ∧ ∃ b33 : Nat, zp_n F' (zp_0 ps) 33 = (b33 : Int) ∧ P' b33 = some 74 ∧ ∀ k : Nat, k < 5 → zp_n F' b33 (2000 + k) = ywh.getD k 0
set_option maxHeartbeats 4000000 in
theorem zX_i12 {l : Launch} {w : zk_W} (hW : zh_W w) : zk_metX l w zt_dv zt_TB zK_3100 zk_tA zB_m ∧ zk_cok w zt_TB zK_3100 := by
  have hCL := zq_note_ok zd_X12_init [(7, 115, []), (16, 100, []), (25, 60, []), (32, 97, []), (41, 62, []), (49, 63, []), (58, 64, []), (66, 65, []), (75, 116, []), (88, 67, []), (97, 68, []), (106, 69, []), (115, 70, []), (124, 71, []), (132, 72, []), (139, 7, []), (145, 7, []), (151, 7, []), (157, 7, []), (163, 7, []), (169, 7, []), (176, 7, []), (183, 7, []), (190, 7, []), (197, 73, []), (204, 7, []), (210, 7, []), (216, 7, []), (222, 7, []), (228, 7, []), (234, 7, []), (241, 7, []), (247, 74, []), (254, 7, []), (260, 7, []), (266, 7, []), (272, 7, []), (278, 7, []), (285, 75, []), (293, 76, []), (302, 77, []), (310, 78, []), (319, 79, []), (328, 80, []), (336, 81, []), (344, 82, []), (352, 83, []), (365, 84, []), (373, 85, []), (381, 86, []), (389, 87, []), (397, 88, []), (405, 89, []), (413, 90, []), (426, 91, []), (442, 7, []), (451, 7, []), (461, 7, []), (469, 7, [])]
  refine zh_methK hW (lk := [(7, 1, 0, 0, 0), (5, 1, 1, 0, 0), (2, 7, 12, 2, 18), (2, 13, 12, 3, 18), (2, 16, 12, 4, 18), (5, 4, 4, 0, 0), (2, 19, 12, 5, 18), (2, 23, 12, 6, 18), (2, 26, 12, 7, 18), (2, 29, 12, 9, 18), (2, 32, 12, 10, 18), (2, 35, 12, 12, 18), (2, 38, 12, 18, 0), (2, 42, 12, 22, 18), (2, 45, 12, 24, 18), (2, 48, 12, 25, 18), (2, 51, 12, 27, 18), (2, 54, 12, 28, 18), (5, 2, 2, 0, 0), (1, 57, 0, 0, 21678547), (1, 59, 0, 0, 17292466), (1, 61, 0, 0, 278194), (1, 63, 0, 0, 542723566), (1, 65, 0, 0, 15660), (1, 67, 0, 0, 412766597), (1, 69, 0, 0, 402629), (1, 71, 0, 0, 4153), (1, 73, 0, 0, 441828), (2, 75, 12, 31, 18), (1, 79, 0, 0, 146885), (1, 81, 0, 0, 5705892), (1, 83, 0, 0, 398548), (2, 85, 12, 32, 18), (1, 88, 0, 0, 611795), (1, 90, 0, 0, 654480531), (1, 92, 0, 0, 24282707), (1, 94, 0, 0, 20383251), (1, 96, 0, 0, 67155), (2, 98, 12, 33, 18), (2, 101, 12, 35, 18), (2, 104, 12, 36, 18), (2, 107, 12, 37, 18), (2, 110, 12, 41, 18), (2, 113, 12, 42, 18), (2, 116, 12, 43, 18), (2, 119, 12, 44, 18), (2, 122, 12, 45, 18), (2, 125, 12, 46, 18), (2, 128, 12, 47, 0), (2, 131, 12, 48, 18), (2, 134, 12, 50, 18), (2, 137, 12, 51, 18), (2, 140, 12, 52, 18), (2, 143, 12, 54, 18), (2, 146, 12, 55, 18), (2, 149, 12, 56, 18), (2, 152, 12, 59, 0), (2, 155, 12, 62, 18), (2, 158, 12, 63, 0)]) (KS := []) (km := []) (lc := []) (K := zK_3100) (pl := 1341) (by decide +kernel) (by decide +kernel) (fun K h => nomatch h) (fun p e R s m args below meth c Q P0 G0 ps X hx hb hps hE hQ H locs ls hG => ?_)
  refine zh_segC (K := zK_3100) hx hb hE hCL (pc := 0) (st := []) (cu := 0) (su := 0) (sv := []) (AN := [zR_m]) (fuel := 1070) (by decide +kernel) hG trivial (fun A hA N P F H locs ls sv hG hS => ?_)
  obtain rfl := List.mem_singleton.mp hA
  refine zh_retC (K := zK_3100) hx hb hE hQ rfl rfl (List.mem_singleton.mpr rfl) (by decide +kernel) (by decide +kernel) (by decide +kernel) (by decide +kernel) hG hS (fun z f n fs hz hf hn hnP hfs => ?_)
  have hV := hG.1
  have hF := hG.2.2.1
  have hef : zk_ef [] ps P0 G0 F := hG.2.2.2.2.2.2.2.1
  have hext : ∀ a t, P0 a = some t → P a = some t := hG.2.2.2.2.2.2.1
  obtain rfl := (List.cons.inj hz).1
  have hf : some ((3, 102, 0, 0) : zk_F) = some f := hf
  obtain rfl := Option.some.inj hf
  have h0 : zp_0 ps = n := zp_00 hn
  have hold := zp_n_new (x := .inr (12, fs)) hef hext hnP
  obtain ⟨b3, hb3, qb3⟩ := zh_r (i := 5) (t := 100) hV rfl
  have nb3 : b3 ≠ n := fun e => by rw [e, hnP] at qb3; cases qb3
  obtain ⟨vb3, xb3, sb3⟩ := zk_all2_get hfs (i := 3) rfl
  have eb3 : zp_n (zk_up F n (.inr (12, fs))) (zp_0 ps) 3 = (b3 : Int) := by
    rw [h0, zp_n_upo xb3, zh_vr (x := 5) (t := 100) sb3 rfl hb3]
    rfl
  have pb3 : zk_up P n (some 102) b3 = some 100 := by rw [zk_up_ne nb3]; exact qb3
  obtain ⟨b31, hb31, qb31⟩ := zh_r (i := 18) (t := 72) hV rfl
  have nb31 : b31 ≠ n := fun e => by rw [e, hnP] at qb31; cases qb31
  obtain ⟨vb31, xb31, sb31⟩ := zk_all2_get hfs (i := 31) rfl
  have eb31 : zp_n (zk_up F n (.inr (12, fs))) (zp_0 ps) 31 = (b31 : Int) := by
    rw [h0, zp_n_upo xb31, zh_vr (x := 18) (t := 72) sb31 rfl hb31]
    rfl
  have pb31 : zk_up P n (some 102) b31 = some 72 := by rw [zk_up_ne nb31]; exact qb31
  obtain ⟨b32, hb32, qb32⟩ := zh_r (i := 28) (t := 73) hV rfl
  have nb32 : b32 ≠ n := fun e => by rw [e, hnP] at qb32; cases qb32
  obtain ⟨vb32, xb32, sb32⟩ := zk_all2_get hfs (i := 32) rfl
  have eb32 : zp_n (zk_up F n (.inr (12, fs))) (zp_0 ps) 32 = (b32 : Int) := by
    rw [h0, zp_n_upo xb32, zh_vr (x := 28) (t := 73) sb32 rfl hb32]
    rfl
  have pb32 : zk_up P n (some 102) b32 = some 73 := by rw [zk_up_ne nb32]; exact qb32
  obtain ⟨b33, hb33, qb33⟩ := zh_r (i := 36) (t := 74) hV rfl
  have nb33 : b33 ≠ n := fun e => by rw [e, hnP] at qb33; cases qb33
  obtain ⟨vb33, xb33, sb33⟩ := zk_all2_get hfs (i := 33) rfl
  have eb33 : zp_n (zk_up F n (.inr (12, fs))) (zp_0 ps) 33 = (b33 : Int) := by
    rw [h0, zp_n_upo xb33, zh_vr (x := 36) (t := 74) sb33 rfl hb33]
    rfl
  have pb33 : zk_up P n (some 102) b33 = some 74 := by rw [zk_up_ne nb33]; exact qb33
  refine ⟨hold, ⟨b3, eb3, pb3, ?_, ?_, ?_, ?_⟩, ⟨b31, eb31, pb31, fun k hk => ?_⟩, ⟨b32, eb32, pb32, fun k hk => ?_⟩, ⟨b33, eb33, pb33, fun k hk => ?_⟩⟩
  · rw [zp_n_up nb3]
    exact (zB_el (x := 5) (y := 0) (o := (-1)) hV hF (List.mem_of_getElem? (i := 0) rfl) hb3 (kd := 0) (c0 := 0) rfl (by decide)).trans (by decide)
  · rw [zp_n_up nb3]
    exact (zB_el (x := 5) (y := 0) (o := 7) hV hF (List.mem_of_getElem? (i := 1) rfl) hb3 (kd := 0) (c0 := 0) rfl (by decide)).trans (by decide)
  · rw [zp_n_up nb3]
    exact (zB_el (x := 5) (y := 0) (o := 1000) hV hF (List.mem_of_getElem? (i := 2) rfl) hb3 (kd := 0) (c0 := 0) rfl (by decide)).trans (by decide)
  · rw [zp_n_up nb3]
    exact (zB_el (x := 5) (y := 0) (o := (-1)) hV hF (List.mem_of_getElem? (i := 3) rfl) hb3 (kd := 0) (c0 := 0) rfl (by decide)).trans (by decide)
  · rw [zp_n_up nb31]
    have hk31 : k = 0 ∨ k = 1 ∨ k = 2 ∨ k = 3 ∨ k = 4 ∨ k = 5 ∨ k = 6 ∨ k = 7 ∨ k = 8 := by omega
    rcases hk31 with rfl | rfl | rfl | rfl | rfl | rfl | rfl | rfl | rfl
    · exact (zB_el (x := 18) (y := 19) (o := 0) hV hF (List.mem_of_getElem? (i := 4) rfl) hb31 (kd := 1) (c0 := 21678547) rfl (by decide)).trans (by decide)
    · exact (zB_el (x := 18) (y := 20) (o := 0) hV hF (List.mem_of_getElem? (i := 5) rfl) hb31 (kd := 1) (c0 := 17292466) rfl (by decide)).trans (by decide)
    · exact (zB_el (x := 18) (y := 21) (o := 0) hV hF (List.mem_of_getElem? (i := 6) rfl) hb31 (kd := 1) (c0 := 278194) rfl (by decide)).trans (by decide)
    · exact (zB_el (x := 18) (y := 22) (o := 0) hV hF (List.mem_of_getElem? (i := 7) rfl) hb31 (kd := 1) (c0 := 542723566) rfl (by decide)).trans (by decide)
    · exact (zB_el (x := 18) (y := 23) (o := 0) hV hF (List.mem_of_getElem? (i := 8) rfl) hb31 (kd := 1) (c0 := 15660) rfl (by decide)).trans (by decide)
    · exact (zB_el (x := 18) (y := 24) (o := 0) hV hF (List.mem_of_getElem? (i := 9) rfl) hb31 (kd := 1) (c0 := 412766597) rfl (by decide)).trans (by decide)
    · exact (zB_el (x := 18) (y := 25) (o := 0) hV hF (List.mem_of_getElem? (i := 10) rfl) hb31 (kd := 1) (c0 := 402629) rfl (by decide)).trans (by decide)
    · exact (zB_el (x := 18) (y := 26) (o := 0) hV hF (List.mem_of_getElem? (i := 11) rfl) hb31 (kd := 1) (c0 := 4153) rfl (by decide)).trans (by decide)
    · exact (zB_el (x := 18) (y := 27) (o := 0) hV hF (List.mem_of_getElem? (i := 12) rfl) hb31 (kd := 1) (c0 := 441828) rfl (by decide)).trans (by decide)
  · rw [zp_n_up nb32]
    have hk32 : k = 0 ∨ k = 1 ∨ k = 2 ∨ k = 3 ∨ k = 4 ∨ k = 5 ∨ k = 6 := by omega
    rcases hk32 with rfl | rfl | rfl | rfl | rfl | rfl | rfl
    · exact (zB_el (x := 28) (y := 29) (o := 0) hV hF (List.mem_of_getElem? (i := 13) rfl) hb32 (kd := 1) (c0 := 4153) rfl (by decide)).trans (by decide)
    · exact (zB_el (x := 28) (y := 30) (o := 0) hV hF (List.mem_of_getElem? (i := 14) rfl) hb32 (kd := 1) (c0 := 21678547) rfl (by decide)).trans (by decide)
    · exact (zB_el (x := 28) (y := 31) (o := 0) hV hF (List.mem_of_getElem? (i := 15) rfl) hb32 (kd := 1) (c0 := 402629) rfl (by decide)).trans (by decide)
    · exact (zB_el (x := 28) (y := 32) (o := 0) hV hF (List.mem_of_getElem? (i := 16) rfl) hb32 (kd := 1) (c0 := 146885) rfl (by decide)).trans (by decide)
    · exact (zB_el (x := 28) (y := 33) (o := 0) hV hF (List.mem_of_getElem? (i := 17) rfl) hb32 (kd := 1) (c0 := 5705892) rfl (by decide)).trans (by decide)
    · exact (zB_el (x := 28) (y := 34) (o := 0) hV hF (List.mem_of_getElem? (i := 18) rfl) hb32 (kd := 1) (c0 := 412766597) rfl (by decide)).trans (by decide)
    · exact (zB_el (x := 28) (y := 35) (o := 0) hV hF (List.mem_of_getElem? (i := 19) rfl) hb32 (kd := 1) (c0 := 398548) rfl (by decide)).trans (by decide)
  · rw [zp_n_up nb33]
    have hk33 : k = 0 ∨ k = 1 ∨ k = 2 ∨ k = 3 ∨ k = 4 := by omega
    rcases hk33 with rfl | rfl | rfl | rfl | rfl
    · exact (zB_el (x := 36) (y := 37) (o := 0) hV hF (List.mem_of_getElem? (i := 20) rfl) hb33 (kd := 1) (c0 := 611795) rfl (by decide)).trans (by decide)
    · exact (zB_el (x := 36) (y := 38) (o := 0) hV hF (List.mem_of_getElem? (i := 21) rfl) hb33 (kd := 1) (c0 := 654480531) rfl (by decide)).trans (by decide)
    · exact (zB_el (x := 36) (y := 39) (o := 0) hV hF (List.mem_of_getElem? (i := 22) rfl) hb33 (kd := 1) (c0 := 24282707) rfl (by decide)).trans (by decide)
    · exact (zB_el (x := 36) (y := 40) (o := 0) hV hF (List.mem_of_getElem? (i := 23) rfl) hb33 (kd := 1) (c0 := 20383251) rfl (by decide)).trans (by decide)
    · exact (zB_el (x := 36) (y := 41) (o := 0) hV hF (List.mem_of_getElem? (i := 24) rfl) hb33 (kd := 1) (c0 := 67155) rfl (by decide)).trans (by decide)
noncomputable def zR_r : zk_An := (30, ([(0, 0, 0, 0), (1, 0, 0, 0), (2, 0, (-1), (-1)), (3, 95, 0, 0), (2, 94, 0, 0), (2, 8, 0, 0)], [], [], [(3, 5, [(4, 0), (5, 0), (0, (-1)), (0, 0), (0, 0)])], [], [(0, 3), (1, 4)], []), [], 7, 940, ((-1), []))
/-- the reader's tape -/
noncomputable def zB_r : zk_B := fun P G ps P' F' _ => (∀ a t k, P a = some t → zp_n F' a k = zp_n G a k) ∧ ∀ a tp : Nat, ps = [(a : Int), (tp : Int)] → zp_n F' a 0 = (tp : Int)
theorem zX_i5 {l : Launch} {w : zk_W} (hW : zh_W w) : zk_metX l w zt_dv zt_TB zK_3011 zk_tA zB_r ∧ zk_cok w zt_TB zK_3011 := by
  have hCL := zq_note_ok zd_X5_init []
  refine zh_methK hW (lk := [(7, 5, 0, 0, 0), (3, 11, 8, 8, 0), (2, 16, 5, 1, 18), (2, 20, 5, 2, 0), (2, 24, 5, 0, 18)]) (KS := [zK_9]) (km := [11]) (lc := [(2, 13, 11)]) (K := zK_3011) (pl := 465) (by decide +kernel) (by decide +kernel) (by
  intro K h
  rw [List.mem_singleton.mp h]
  exact zq_9 hW) (fun p e R s m args below meth c Q P0 G0 ps X hx hb hps hE hQ H locs ls hG => ?_)
  refine zh_segC (K := zK_3011) hx hb hE hCL (pc := 0) (st := []) (cu := 0) (su := 0) (sv := []) (AN := [zR_r]) (fuel := 114) (by decide +kernel) hG trivial (fun A hA N P F H locs ls sv hG hS => ?_)
  obtain rfl := List.mem_singleton.mp hA
  refine zh_retC (K := zK_3011) hx hb hE hQ rfl rfl (List.mem_singleton.mpr rfl) (by decide +kernel) (by decide +kernel) (by decide +kernel) (by decide +kernel) hG hS (fun z f n fs hz hf hn hnP hfs => ?_)
  have hef : zk_ef [] ps P0 G0 F := hG.2.2.2.2.2.2.2.1
  have hext : ∀ a t, P0 a = some t → P a = some t := hG.2.2.2.2.2.2.1
  obtain rfl := (List.cons.inj hz).1
  have hf : some ((3, 95, 0, 0) : zk_F) = some f := hf
  obtain rfl := Option.some.inj hf
  refine ⟨zp_n_new hef hext hnP, fun a tp hps2 => ?_⟩
  subst hps2
  have hn : some (a : Int) = some (n : Int) := hn
  obtain rfl : a = n := by have := Option.some.inj hn; omega
  have h4 : N[4]? = some (tp : Int) := zh_pa (j := 1) hG.2.2.2.2.2.2.2.2.2.1 (List.mem_cons_of_mem _ List.mem_cons_self) rfl
  obtain ⟨v, xv, sv0⟩ := zk_all2_get hfs (i := 0) rfl
  rw [zp_n_upo xv, zh_vr (x := 4) (t := 94) sv0 rfl h4]
  rfl
noncomputable def zR_y : zk_An := (46, ([(0, 0, 0, 0), (1, 0, 0, 0), (2, 0, (-1), (-1)), (3, 99, 0, 0), (2, 6, 0, 0), (2, 98, 0, 0), (2, 14, 0, 0), (2, 15, 0, 0), (2, 16, 0, 0), (2, 117, 0, 0)], [], [], [(3, 0, [(4, 0), (5, 0), (9, 0), (6, 0), (7, 0), (8, 0)])], [], [(0, 3), (1, 4)], []), [], 3, 44, ((-1), []))
/-- the day's rules -/
noncomputable def zB_y : zk_B := fun P G ps P' F' _ => (∀ a t k, P a = some t → zp_n F' a k = zp_n G a k) ∧ ∀ a ru tn : Nat, ps = [(a : Int), (ru : Int), (tn : Int)] → zp_n F' a 0 = (ru : Int)
theorem zX_i0 {l : Launch} {w : zk_W} (hW : zh_W w) : zk_metX l w zt_dv zt_TB zK_3004 zk_tA zB_y ∧ zk_cok w zt_TB zK_3004 := by
  have hCL := zq_note_ok zd_X0_init [(7, 14, []), (15, 15, []), (23, 16, [])]
  refine zh_methK hW (lk := [(7, 3, 0, 0, 0), (5, 1, 1, 0, 0), (2, 9, 0, 3, 18), (2, 15, 0, 4, 18), (2, 18, 0, 5, 18), (2, 21, 0, 0, 18), (2, 25, 0, 1, 2), (2, 29, 9, 18, 34), (2, 35, 0, 2, 2)]) (KS := []) (km := []) (lc := []) (K := zK_3004) (pl := 342) (by decide +kernel) (by decide +kernel) (fun K h => nomatch h) (fun p e R s m args below meth c Q P0 G0 ps X hx hb hps hE hQ H locs ls hG => ?_)
  refine zh_segC (K := zK_3004) hx hb hE hCL (pc := 0) (st := []) (cu := 0) (su := 0) (sv := []) (AN := [zR_y]) (fuel := 150) (by decide +kernel) hG trivial (fun A hA N P F H locs ls sv hG hS => ?_)
  obtain rfl := List.mem_singleton.mp hA
  refine zh_retC (K := zK_3004) hx hb hE hQ rfl rfl (List.mem_singleton.mpr rfl) (by decide +kernel) (by decide +kernel) (by decide +kernel) (by decide +kernel) hG hS (fun z f n fs hz hf hn hnP hfs => ?_)
  have hef : zk_ef [] ps P0 G0 F := hG.2.2.2.2.2.2.2.1
  have hext : ∀ a t, P0 a = some t → P a = some t := hG.2.2.2.2.2.2.1
  obtain rfl := (List.cons.inj hz).1
  have hf : some ((3, 99, 0, 0) : zk_F) = some f := hf
  obtain rfl := Option.some.inj hf
  refine ⟨zp_n_new hef hext hnP, fun a ru tn hps2 => ?_⟩
  subst hps2
  have hn : some (a : Int) = some (n : Int) := hn
  obtain rfl : a = n := by have := Option.some.inj hn; omega
  have h4 : N[4]? = some (ru : Int) := zh_pa (j := 1) hG.2.2.2.2.2.2.2.2.2.1 (List.mem_cons_of_mem _ List.mem_cons_self) rfl
  obtain ⟨v, xv, sv0⟩ := zk_all2_get hfs (i := 0) rfl
  rw [zp_n_upo xv, zh_vr (x := 4) (t := 6) sv0 rfl h4]
  rfl
noncomputable def zR_d1 : zk_An := (58, ([(0, 0, 0, 0), (1, 0, 0, 0), (2, 0, (-1), (-1)), (3, 101, 0, 0), (2, 98, 0, 0), (2, 96, 0, 0), (2, 133, 0, 0), (2, 6, 0, 0), (3, 0, 0, 0)], [], [], [(8, 0, [(2, 0), (2, 0), (2, 0), (2, 0), (2, 0), (2, 0)]), (3, 11, [(4, 0), (5, 0), (6, 0), (7, 0), (2, 0), (2, 0), (2, 0), (2, 0), (2, 0), (2, 0), (2, 0), (2, 0), (2, 0), (0, 0), (0, 0), (0, 0), (2, 0), (0, 0), (0, 0), (2, 0)])], [(0, (3, 0))], [(0, 3)], []), [(4, 0), (7, 0), (8, 0), (8, 0), (3, 0)], 24, 718, ((-1), []))
noncomputable def zO_d : zk_O := (61, ([(0, 0, 0, 0), (1, 0, 0, 0), (2, 0, (-1), (-1)), (3, 101, 0, 0), (2, 98, 0, 0), (2, 96, 0, 0), (2, 133, 0, 0), (2, 6, 0, 0), (2, 99, 0, 0)], [], [], [(3, 11, [(4, 0), (5, 0), (6, 0), (7, 0), (2, 0), (2, 0), (2, 0), (2, 0), (2, 0), (2, 0), (2, 0), (2, 0), (2, 0), (0, 0), (0, 0), (0, 0), (2, 0), (0, 0), (0, 0), (2, 0)])], [(0, (3, 0))], [(0, 3)], []), [(8, 0), (3, 0)], 27, 762)
noncomputable def zR_t1 : zk_An := (117, ([(0, 0, 0, 0), (1, 0, 0, 0), (2, 0, (-1), (-1)), (3, 101, 0, 0), (2, 98, 0, 0), (2, 96, 0, 0), (2, 133, 0, 0), (2, 99, 0, 0), (2, 6, 0, 0), (2, 3, 0, 0), (2, 4, 0, 0), (2, 139, 0, 0), (2, 94, 0, 0), (3, 0, 0, 0)], [], [(7, 0, (8, 0))], [(13, 5, [(2, 0), (2, 0), (0, 0), (0, 0), (0, 0)]), (3, 11, [(4, 0), (5, 0), (6, 0), (8, 0), (7, 0), (9, 0), (10, 0), (11, 0), (12, 0), (2, 0), (2, 0), (2, 0), (2, 0), (0, 0), (0, 0), (0, 0), (2, 0), (0, 0), (0, 0), (2, 0)])], [(0, (3, 0))], [(0, 3)], []), [(12, 0), (13, 0), (13, 0), (3, 0)], 44, 3383, ((-1), []))
noncomputable def zO_t : zk_O := (120, ([(0, 0, 0, 0), (1, 0, 0, 0), (2, 0, (-1), (-1)), (3, 101, 0, 0), (2, 98, 0, 0), (2, 96, 0, 0), (2, 133, 0, 0), (2, 99, 0, 0), (2, 6, 0, 0), (2, 3, 0, 0), (2, 4, 0, 0), (2, 139, 0, 0), (2, 94, 0, 0), (2, 95, 0, 0)], [], [(7, 0, (8, 0))], [(3, 11, [(4, 0), (5, 0), (6, 0), (8, 0), (7, 0), (9, 0), (10, 0), (11, 0), (12, 0), (2, 0), (2, 0), (2, 0), (2, 0), (0, 0), (0, 0), (0, 0), (2, 0), (0, 0), (0, 0), (2, 0)])], [(0, (3, 0))], [(0, 3)], []), [(13, 0), (3, 0)], 51, 4323)
noncomputable def zR_t2 : zk_An := (181, ([(0, 0, 0, 0), (1, 0, 0, 0), (2, 0, (-1), (-1)), (3, 101, 0, 0), (2, 98, 0, 0), (2, 96, 0, 0), (2, 133, 0, 0), (2, 99, 0, 0), (2, 6, 0, 0), (2, 3, 0, 0), (2, 4, 0, 0), (2, 139, 0, 0), (2, 95, 0, 0), (2, 94, 0, 0), (2, 129, 0, 0), (2, 136, 0, 0), (2, 56, 0, 0), (2, 125, 0, 0), (2, 113, 0, 0)], [], [(12, 0, (13, 0)), (7, 0, (8, 0))], [(3, 11, [(4, 0), (5, 0), (6, 0), (8, 0), (7, 0), (9, 0), (10, 0), (11, 0), (13, 0), (12, 0), (14, 0), (15, 0), (16, 0), (0, 0), (0, (-1)), (0, (-1)), (17, 0), (0, 0), (0, 0), (18, 0)])], [], [(0, 3)], []), [], 64, 4843, ((-1), []))
/-- the reader's tape is the town's, the day's rules are the town's -/
noncomputable def zB_t : zk_B := fun P G ps P' F' _ => ∃ tp rd dy ru : Nat, zp_n F' (zp_0 ps) 8 = (tp : Int) ∧ P' tp = some 94 ∧ zp_n F' (zp_0 ps) 9 = (rd : Int) ∧ P' rd = some 95 ∧ zp_n F' rd 0 = (tp : Int) ∧ zp_n F' (zp_0 ps) 4 = (dy : Int) ∧ P' dy = some 99 ∧ zp_n F' (zp_0 ps) 3 = (ru : Int) ∧ P' ru = some 6 ∧ zp_n F' dy 0 = (ru : Int)
theorem zO_de : zk_s7 zt_types zt_dv [zK_3004] [5] [(2, 9, 1), (2, 22, 3), (2, 29, 4), (2, 36, 5), (2, 45, 6), (2, 52, 7), (2, 59, 8), (2, 66, 9), (2, 73, 10), (2, 82, 2)] (zk_Ke zK_3015) (zk_Kr zK_3015) 0 (.invokespecial 36) 3 58 zR_d1.2.1 zR_d1.2.2.1 24 718 = some [zO_d] := zh_oe (by decide +kernel)
theorem zO_te : zk_s7 zt_types zt_dv [zK_3011] [10] [(2, 9, 1), (2, 22, 3), (2, 29, 4), (2, 36, 5), (2, 45, 6), (2, 52, 7), (2, 59, 8), (2, 66, 9), (2, 73, 10), (2, 82, 2)] (zk_Ke zK_3015) (zk_Kr zK_3015) 0 (.invokespecial 73) 3 117 zR_t1.2.1 zR_t1.2.2.1 44 3383 = some [zO_t] := zh_oe (by decide +kernel)
set_option maxHeartbeats 4000000 in
theorem zX_i11 {l : Launch} {w : zk_W} (hW : zh_W w) : zk_metX l w zt_dv zt_TB zK_3015 zk_tA zB_t ∧ zk_cok w zt_TB zK_3015 := by
  have hw := hW.1
  have hCL := zq_note_ok zd_X11_init [(17, 96, []), (28, 1, []), (39, 2, []), (58, 3, []), (69, 4, []), (80, 5, []), (91, 6, []), (102, 7, []), (117, 8, []), (128, 9, []), (139, 10, []), (148, 56, []), (168, 11, []), (176, 113, [])]
  refine zh_methK hW (lk := [(7, 1, 0, 0, 0), (3, 7, 9, 19, 0), (2, 10, 11, 0, 18), (4, 7, 9, 0, 0), (2, 16, 11, 1, 18), (3, 20, 10, 4, 0), (2, 23, 11, 2, 18), (3, 27, 6, 3, 0), (2, 30, 11, 3, 18), (3, 34, 0, 6, 0), (2, 39, 11, 4, 18), (3, 43, 3, 7, 0), (2, 46, 11, 5, 18), (3, 50, 4, 2, 0), (2, 53, 11, 6, 18), (3, 57, 1, 4, 0), (2, 60, 11, 7, 18), (3, 64, 7, 6, 0), (2, 67, 11, 8, 18), (3, 71, 5, 5, 0), (2, 76, 11, 9, 18), (3, 80, 2, 7, 0), (2, 83, 11, 10, 18), (2, 87, 11, 11, 18), (5, 1, 1, 0, 0), (2, 90, 11, 12, 18), (2, 94, 11, 14, 0), (2, 98, 11, 15, 0), (2, 101, 11, 16, 18), (2, 104, 11, 19, 18)]) (KS := [zK_3001, zK_3002, zK_3, zK_3004, zK_5, zK_6, zK_3008, zK_3009, zK_3011, zK_3012, zK_3013, zK_3014]) (km := [1, 3, 4, 5, 6, 7, 8, 9, 10, 2, 3, 2]) (lc := [(2, 9, 1), (2, 22, 3), (2, 29, 4), (2, 36, 5), (2, 45, 6), (2, 52, 7), (2, 59, 8), (2, 66, 9), (2, 73, 10), (2, 82, 2)]) (K := zK_3015) (pl := 140) (by decide +kernel) (by decide +kernel) (by
  intro K h
  rcases List.mem_cons.mp h with rfl | h
  · exact zq_3001 hW
  rcases List.mem_cons.mp h with rfl | h
  · exact zq_3002 hW
  rcases List.mem_cons.mp h with rfl | h
  · exact zq_3 hW
  rcases List.mem_cons.mp h with rfl | h
  · exact zq_3004 hW
  rcases List.mem_cons.mp h with rfl | h
  · exact zq_5 hW
  rcases List.mem_cons.mp h with rfl | h
  · exact zq_6 hW
  rcases List.mem_cons.mp h with rfl | h
  · exact zq_3008 hW
  rcases List.mem_cons.mp h with rfl | h
  · exact zq_3009 hW
  rcases List.mem_cons.mp h with rfl | h
  · exact zq_3011 hW
  rcases List.mem_cons.mp h with rfl | h
  · exact zq_3012 hW
  rcases List.mem_cons.mp h with rfl | h
  · exact zq_3013 hW
  rw [List.mem_singleton.mp h]
  exact zq_3014 hW) (fun p e R s m args below meth c Q P0 G0 ps X hx hb hps hE hQ H locs ls hG => ?_)
  refine zh_segC (K := zK_3015) hx hb hE hCL (pc := 0) (st := []) (cu := 0) (su := 0) (sv := []) (AN := [zR_d1]) (fuel := 398) (by decide +kernel) hG trivial (fun A hA N P F H locs ls sv hG hS => ?_)
  obtain rfl := List.mem_singleton.mp hA
  refine zh_callC (K := zK_3015) hx hb hE (zX_i0 hW) (mi := 5) rfl (i := .invokespecial 36) (len := 3) (pc := 58) zO_de (by decide +kernel) hG hS (fun y hy Nd Pd Fd Hd locsd lsd svd psd rnd hpd hBd hNd hGd hSd => ?_)
  obtain rfl := List.mem_singleton.mp hy
  obtain ⟨dy, hdy, qdy⟩ := zh_r (i := 8) (t := 99) hGd.1 rfl
  obtain ⟨ru, hru, qru⟩ := zh_r (i := 7) (t := 6) hGd.1 rfl
  have hgd : ∀ (j : Nat) (n : Int), j < 9 → Nd[j]? = some n → N[j]? = some n := fun j n hj h => by
    rcases hNd with e | e
    · rw [e] at h
      exact h
    · rw [e, List.getElem?_append_left (by have := zk_all2_len hG.1; have e2 : zR_d1.2.1.1.length = 9 := rfl; omega)] at h
      exact h
  obtain ⟨tn, htn⟩ : ∃ tn : Nat, psd = [(dy : Int), (ru : Int), (tn : Int)] := by
    have hpd : zk_all2 (fun (q : zk_S) (n : Int) => ∃ k, N[q.1]? = some k ∧ n = k + q.2) [((8, 0) : zk_S), (7, 0), (4, 0)] psd := hpd
    obtain ⟨y1, y2, y3, rfl, ⟨k1, g1, g2⟩, ⟨k2, g3, g4⟩, k3, g5, g6⟩ := zp_ps3 hpd
    obtain ⟨tn, htn, -⟩ := zh_r (i := 4) (t := 98) hG.1 rfl
    have g7 := hgd 8 _ (by decide) hdy
    have g8 := hgd 7 _ (by decide) hru
    cases g7.symm.trans g1
    cases g8.symm.trans g3
    cases htn.symm.trans g5
    refine ⟨tn, ?_⟩
    rw [g2, g4, g6]
    simp
  have hidd : zp_n Fd dy 0 = (ru : Int) := hBd.2 dy ru tn htn
  have hdyf := (zp_rdf (xs := []) (zp_wt.of hGd.2.2.2.2.1) hw qdy (show zp_fd 99 0 = some (0, 2, 6, 0, 0) from rfl) (show (2 : Nat) ≤ 2 by decide)).2
  obtain ⟨fsd, Td, -, -, -, -, hFd0, -, -, hvd⟩ := hdyf
  have hfactd : zk_fa1 zO_d.2.1.1 Nd Pd Fd 8 0 (7, 0) := by
    refine ⟨(dy : Int), 99, .ref ru, hdy, by omega, by rw [Int.toNat_natCast]; exact qdy, ?_, ⟨(2, 6, 0, 0), (ru : Int), rfl, hru, trivial, ?_⟩⟩
    · rw [Int.toNat_natCast, hFd0]
      show fsd[0]? = _
      rw [hvd, hidd]
      exact congrArg some (zp_ref ru)
    · show Value.ref ru = zk_mk 2 ((ru : Int) + 0)
      rw [Int.add_zero, zp_ref]
  refine zh_segC (K := zK_3015) hx hb hE hCL (AN := [zR_t1]) (fuel := 398) (by decide +kernel) (zh_addf (q := (8, 0, (7, 0))) hGd hfactd) hSd (fun A hA N P F H locs ls sv hG hS => ?_)
  obtain rfl := List.mem_singleton.mp hA
  refine zh_callC (K := zK_3015) hx hb hE (zX_i5 hW) (mi := 10) rfl (i := .invokespecial 73) (len := 3) (pc := 117) zO_te (by decide +kernel) hG hS (fun y hy N2 P2 F2 H2 locs2 ls2 sv2 ps2 rn2 hp2 hB2 hN2 hG2 hS2 => ?_)
  obtain rfl := List.mem_singleton.mp hy
  obtain ⟨tp, htp, qtp⟩ := zh_r (i := 12) (t := 94) hG2.1 rfl
  obtain ⟨rd, hrd, qrd⟩ := zh_r (i := 13) (t := 95) hG2.1 rfl
  have hgt : ∀ (j : Nat) (n : Int), j < 14 → N2[j]? = some n → N[j]? = some n := fun j n hj h => by
    rcases hN2 with e | e
    · rw [e] at h
      exact h
    · rw [e, List.getElem?_append_left (by have := zk_all2_len hG.1; have e2 : zR_t1.2.1.1.length = 14 := rfl; omega)] at h
      exact h
  have hps2 : ps2 = [(rd : Int), (tp : Int)] := by
    have hp2 : zk_all2 (fun (q : zk_S) (n : Int) => ∃ k, N[q.1]? = some k ∧ n = k + q.2) [((13, 0) : zk_S), (12, 0)] ps2 := hp2
    obtain ⟨y1, y2, rfl, ⟨k1, g1, g2⟩, k2, g3, g4⟩ := zp_ps2 hp2
    have g5 := hgt 13 _ (by decide) hrd
    have g6 := hgt 12 _ (by decide) htp
    cases g5.symm.trans g1
    cases g6.symm.trans g3
    rw [g2, g4]
    simp
  have hid : zp_n F2 rd 0 = (tp : Int) := hB2.2 rd tp hps2
  have hrdf := (zp_rdf (xs := []) (zp_wt.of hG2.2.2.2.2.1) hw qrd (show zp_fd 95 0 = some (5, 2, 94, 0, 0) from rfl) (show (2 : Nat) ≤ 2 by decide)).2
  obtain ⟨fs0, T0, -, -, -, -, hF0, -, -, hv0⟩ := hrdf
  have hfact : zk_fa1 zO_t.2.1.1 N2 P2 F2 13 0 (12, 0) := by
    refine ⟨(rd : Int), 95, .ref tp, hrd, by omega, by rw [Int.toNat_natCast]; exact qrd, ?_, ⟨(2, 94, 0, 0), (tp : Int), rfl, htp, trivial, ?_⟩⟩
    · rw [Int.toNat_natCast, hF0]
      show fs0[0]? = _
      rw [hv0, hid]
      exact congrArg some (zp_ref tp)
    · show Value.ref tp = zk_mk 2 ((tp : Int) + 0)
      rw [Int.add_zero, zp_ref]
  refine zh_segC (K := zK_3015) hx hb hE hCL (AN := [zR_t2]) (fuel := 398) (by decide +kernel) (zh_addf (q := (13, 0, (12, 0))) hG2 hfact) hS2 (fun A hA N3 P3 F3 H3 locs3 ls3 sv3 hG3 hS3 => ?_)
  obtain rfl := List.mem_singleton.mp hA
  refine zh_retC (K := zK_3015) hx hb hE hQ rfl rfl (List.mem_singleton.mpr rfl) (by decide +kernel) (by decide +kernel) (by decide +kernel) (by decide +kernel) hG3 hS3 (fun z f n fs hz hf hn hnP hfs => ?_)
  obtain rfl := (List.cons.inj hz).1
  have hf : some ((3, 101, 0, 0) : zk_F) = some f := hf
  obtain rfl := Option.some.inj hf
  have h0 : zp_0 ps = n := zp_00 hn
  obtain ⟨tp3, htp3, qtp3⟩ := zh_r (i := 13) (t := 94) hG3.1 rfl
  have ntp3 : tp3 ≠ n := fun e => by rw [e, hnP] at qtp3; cases qtp3
  obtain ⟨rd3, hrd3, qrd3⟩ := zh_r (i := 12) (t := 95) hG3.1 rfl
  have nrd3 : rd3 ≠ n := fun e => by rw [e, hnP] at qrd3; cases qrd3
  obtain ⟨dy3, hdy3, qdy3⟩ := zh_r (i := 7) (t := 99) hG3.1 rfl
  have ndy3 : dy3 ≠ n := fun e => by rw [e, hnP] at qdy3; cases qdy3
  obtain ⟨ru3, hru3, qru3⟩ := zh_r (i := 8) (t := 6) hG3.1 rfl
  have nru3 : ru3 ≠ n := fun e => by rw [e, hnP] at qru3; cases qru3
  obtain ⟨v8, x8, s8⟩ := zk_all2_get hfs (i := 8) rfl
  obtain ⟨v9, x9, s9⟩ := zk_all2_get hfs (i := 9) rfl
  obtain ⟨v4, x4, s4⟩ := zk_all2_get hfs (i := 4) rfl
  obtain ⟨v3, x3, s3⟩ := zk_all2_get hfs (i := 3) rfl
  obtain ⟨v, hv, sv⟩ := zh_rdf hG3.2.2.1 (x := 12) (k := 0) List.mem_cons_self hrd3
  obtain ⟨u, hu, su⟩ := zh_rdf hG3.2.2.1 (x := 7) (k := 0) (List.mem_cons_of_mem _ List.mem_cons_self) hdy3
  refine ⟨tp3, rd3, dy3, ru3, ?_, by rw [zk_up_ne ntp3]; exact qtp3, ?_, by rw [zk_up_ne nrd3]; exact qrd3, ?_, ?_, by rw [zk_up_ne ndy3]; exact qdy3, ?_, by rw [zk_up_ne nru3]; exact qru3, ?_⟩
  · rw [h0, zp_n_upo x8, zh_vr (x := 13) (t := 94) s8 rfl htp3]
    rfl
  · rw [h0, zp_n_upo x9, zh_vr (x := 12) (t := 95) s9 rfl hrd3]
    rfl
  · rw [zp_n_up nrd3, zC_num hv, zh_vr (x := 13) (t := 94) sv rfl htp3]
    rfl
  · rw [h0, zp_n_upo x4, zh_vr (x := 7) (t := 99) s4 rfl hdy3]
    rfl
  · rw [h0, zp_n_upo x3, zh_vr (x := 8) (t := 6) s3 rfl hru3]
    rfl
  · rw [zp_n_up ndy3, zC_num hu, zh_vr (x := 8) (t := 6) su rfl hru3]
    rfl
