/-! part 8aq: image, back: what stands of the images -/
def zK_iw3 : zk_K := (zt_mn 15, prog_1_method_55_code, 3, (Option.some Jvm.ClassFile.FieldType.boolean), 0, 11, [(0, 0, (-2147483648), 2147483647), (0, 0, (-2147483648), 2147483647), (0, 0, (-2147483648), 2147483647)], [(some (0, 0, 0, 0), [(0, 1, (-1))]), (some (0, 0, 0, 0), [(2, 0, (-1))]), (some (0, 0, 1, 1), [(0, 2, 0), (1, 0, 0)])], [], (0, 0, 0, 0))
theorem zq_iw3 {l : Launch} {w : zk_W} (hW : zh_W w) : zh_K l w zK_iw3 := zh_meth hW (lk := []) (KS := []) (km := []) (lc := []) (CL0 := zc_X11_isWithin) (ns := []) (AN := []) (fuel := 90) (pl := 607) (by decide +kernel) (by decide +kernel) zd_X11_isWithin (fun K h => nomatch h)
def zK_im4 : zk_K := (zt_mn 176, prog_1_method_47_code, 3, (Option.some Jvm.ClassFile.FieldType.int), 1, 11, [(2, 12, 0, 0), (0, 0, (-2147483648), 2147483647)], [(some (0, 0, (-1), 0), [])], [(12, 18, 0), (57, 1002, 0), (42, 1001, 0), (10, 1, 0), (43, 1001, 0), (10, 3, 0), (44, 1001, 0), (45, 1001, 0), (46, 1001, 0), (47, 1001, 0), (48, 1001, 0), (10, 9, 0), (49, 1001, 0), (50, 1001, 0), (51, 1001, 0), (52, 1001, 0), (10, 14, 0), (10, 15, 0), (10, 16, 0), (10, 17, 0), (17, 1001, 0), (18, 1001, 0), (19, 1001, 0), (2, 3, 0), (2, 4, 0), (2, 5, 0), (2, 6, 0), (55, 1001, 0)], (3, 103, 16, 198))
def zK_bk4 : zk_K := (zt_mn 178, prog_1_method_48_code, 3, (Option.some Jvm.ClassFile.FieldType.int), 1, 11, [(2, 12, 0, 0), (0, 0, (-2147483648), 2147483647)], [(some (0, 0, (-2), 0), [])], [(12, 18, 0), (57, 1002, 0), (42, 1001, 0), (10, 1, 0), (43, 1001, 0), (10, 3, 0), (44, 1001, 0), (45, 1001, 0), (46, 1001, 0), (47, 1001, 0), (48, 1001, 0), (10, 9, 0), (49, 1001, 0), (50, 1001, 0), (51, 1001, 0), (52, 1001, 0), (10, 14, 0), (10, 15, 0), (10, 16, 0), (10, 17, 0), (17, 1001, 0), (18, 1001, 0), (19, 1001, 0), (2, 3, 0), (2, 4, 0), (2, 5, 0), (2, 6, 0), (11, 3, 0)], (3, 103, 0, 0))
/-- what image writes but for the images themselves -/
def zE_im0 : List (Nat × Nat × Nat) := [(12, 18, 0), (57, 1002, 0), (42, 1001, 0), (10, 1, 0), (43, 1001, 0), (10, 3, 0), (44, 1001, 0), (45, 1001, 0), (46, 1001, 0), (47, 1001, 0), (48, 1001, 0), (10, 9, 0), (49, 1001, 0), (50, 1001, 0), (51, 1001, 0), (52, 1001, 0), (10, 14, 0), (10, 15, 0), (10, 16, 0), (10, 17, 0), (17, 1001, 0), (18, 1001, 0), (19, 1001, 0), (2, 3, 0), (2, 4, 0), (2, 5, 0), (2, 6, 0)]
def zE_bk0 : List (Nat × Nat × Nat) := [(12, 18, 0), (57, 1002, 0), (42, 1001, 0), (10, 1, 0), (43, 1001, 0), (10, 3, 0), (44, 1001, 0), (45, 1001, 0), (46, 1001, 0), (47, 1001, 0), (48, 1001, 0), (10, 9, 0), (49, 1001, 0), (50, 1001, 0), (51, 1001, 0), (52, 1001, 0), (10, 14, 0), (10, 15, 0), (10, 16, 0), (10, 17, 0), (17, 1001, 0), (18, 1001, 0), (19, 1001, 0), (2, 3, 0), (2, 4, 0), (2, 5, 0), (2, 6, 0), (11, 3, 0)]
def zM_14a : zk_An := (14, ([(0, 0, 0, 0), (1, 0, 0, 0), (2, 0, (-1), (-1)), (2, 12, 0, 0), (0, 0, (-2147483648), 2147483647), (0, 0, (-1), (-1))], [(4, 0, (-1))], [], [], [], [(0, 3), (1, 4)], []), [(5, 0)], 0, 0, ((-1), []))
def zM_14b : zk_An := (14, ([(0, 0, 0, 0), (1, 0, 0, 0), (2, 0, (-1), (-1)), (2, 12, 0, 0), (0, 0, (-2147483648), 2147483647), (0, 0, (-1), (-1))], [(0, 4, (-2))], [], [], [], [(0, 3), (1, 4)], []), [(5, 0)], 0, 0, ((-1), []))
def zM_20 : zk_An := (20, ([(0, 0, 0, 0), (1, 0, 0, 0), (2, 0, (-1), (-1)), (2, 12, 0, 0), (0, 0, 0, 1), (2, 55, 0, 0)], [], [(3, 1, (5, 0))], [], [(0, (3, 0)), (1, (4, 0))], [(0, 3), (1, 4)], []), [(4, 0), (5, 0)], 0, 0, ((-1), []))
def zM_40 : zk_An := (40, ([(0, 0, 0, 0), (1, 0, 0, 0), (2, 0, (-1), (-1)), (2, 12, 0, 0), (0, 0, 0, 1), (2, 55, 0, 0), (2, 10, 0, 0)], [], [(3, 1, (5, 0))], [], [(0, (3, 0)), (1, (4, 0)), (2, (6, 0))], [(0, 3), (1, 4)], []), [(6, 0), (4, 0), (5, 0)], 16, 198, ((-1), []))
def zM_54 : zk_An := (54, ([(0, 0, 0, 0), (1, 0, 0, 0), (2, 0, (-1), (-1)), (2, 12, 0, 0), (0, 0, 0, 0)], [], [], [], [], [(0, 3)], []), [(4, 0)], 16, 198, ((-1), []))
def zM_32 : zk_An := (32, ([(0, 0, 0, 0), (1, 0, 0, 0), (2, 0, (-1), (-1)), (2, 12, 0, 0), (0, 0, (-2), (-2))], [], [], [], [], [(0, 3)], []), [(4, 0)], 0, 0, ((-1), []))
def zM_53 : zk_An := (53, ([(0, 0, 0, 0), (1, 0, 0, 0), (2, 0, (-1), (-1)), (2, 12, 0, 0), (0, 0, 0, 0)], [], [], [], [], [(0, 3)], []), [(4, 0)], 0, 0, ((-1), []))
/-- the images behind image -/
def zB_im : zk_B := fun P G ps _ G' _ => ∀ im : Nat, zp_n G (zp_0 ps) 1 = (im : Int) → P im = some 55 → ∀ j : Nat, j < 2 → ((j : Int) ≠ ps.getD 1 0 → zp_n G' im (2000 + j) = zp_n G im (2000 + j)) ∧ ((j : Int) = ps.getD 1 0 → 0 ≤ zp_n G' im (2000 + j))
/-- what back answers -/
def zB_bk : zk_B := fun P G ps _ _ rn => ∀ im : Nat, zp_n G (zp_0 ps) 1 = (im : Int) → P im = some 55 → (¬ (0 ≤ ps.getD 1 0 ∧ ps.getD 1 0 ≤ 1) → rn = -1) ∧ (0 ≤ ps.getD 1 0 → ps.getD 1 0 ≤ 1 → (zp_n G im (2000 + (ps.getD 1 0).toNat) < 0 → rn = -2) ∧ (0 ≤ zp_n G im (2000 + (ps.getD 1 0).toNat) → rn = 0))
theorem zI_num {F : Nat → va_E} {a k : Nat} {v : Value} (h : zk_rd (F a) k = some v) : zp_n F a k = zp_num v := by
  unfold zp_n
  rw [h]
theorem zI_rdq {cA : ClassId} {n j : Nat} {f : Nat → Option Nat} (h : j < n) : zk_rd (.inl (cA, n, .inr (.inr (.inr (.inr f))))) (2000 + j) = some (va_rf (f j)) := by
  unfold zk_rd
  dsimp only
  rw [if_neg (by omega), if_pos ⟨by omega, by omega⟩, Nat.add_sub_cancel_left]
  rfl
theorem zI_fj (j : Nat) : zk_fj (3, 2, 2, [(2, 10, (-1), 0)]) j = (2, 10, (-1), 0) := rfl
/-- the images -/
theorem zI_arr {w : zk_W} {s : State} {P : Nat → Option Nat} {F : Nat → va_E} {H : Heap} (hw : w.1 = zt_types) (h : zk_wt w s P F H) {im : Nat} (hp : P im = some 55) : ∃ (cA : ClassId) (f : Nat → Option Nat), F im = .inl (cA, 2, .inr (.inr (.inr (.inr f)))) ∧ ArrOfT s cA (.object (zk_rn w (3, 2, 2, [(2, 10, (-1), 0)]))) ∧ va_RA s cA (.object (zk_rn w (3, 2, 2, [(2, 10, (-1), 0)]))) ∧ (∀ j, j < 2 → zk_ok P (2, 10, (-1), 0) (zp_n F im (2000 + j)) ∧ va_rf (f j) = zk_mk 2 (zp_n F im (2000 + j))) ∧ H[im]? = some (vp_cell cA (2, .inr (.inr (.inr (.inr f))))) := by
  have hT : w.1[55]? = some ((3, 2, 2, [(2, 10, (-1), 0)]) : zk_T) := by rw [hw]; rfl
  obtain ⟨cA, n, f, o1, o2, o3, o4, o4', o5, o6, o7⟩ := zk_qarr h hp hT rfl
  have o2 : 2 ≤ n := o2
  have o3 : n ≤ 2 := o3
  obtain rfl : n = 2 := Nat.le_antisymm o3 o2
  refine ⟨cA, f, o1, o4, o4', fun j hj => ?_, o6⟩
  obtain ⟨z, z1, z2⟩ := o5 j hj
  rw [zI_fj] at z1 z2
  have e : zp_n F im (2000 + j) = z := by
    rw [zI_num (v := va_rf (f j)) (by rw [o1]; exact zI_rdq hj), z2]
    exact zp_num_mk z1 (Nat.le_refl 2)
  rw [e]
  exact ⟨z1, z2⟩
section ZI
variable {p : Program} {l : Launch} {e : Env} {R : Room} {s : State} {m : MethodId} {args : Array Value} {below : List Frame} {meth : Method} {c : Code} {Q : State → Prop}
variable {cc : ByteArray} {w : zk_W} {u : zk_M} {Ts : List Jvm.Cond} {own : String}
variable {lk : List zk_L} {KS : List zk_K} {km : List Nat} {lc : List (Nat × Nat × Nat)} {K : zk_K} {P0 P1 : Nat → Option Nat} {X : Nat → Prop} {G0 G1 : Nat → va_E} {ps : List Int}
/-- an end with a number -/
theorem zI_ret (hx : p.tables.exec = Jvm.exec) (hb : c.code = cc) (hE : zh_E l R s m args meth c w (zt_types, lk, zt_dv, KS, km, lc, K) P0 X) {B : zk_B} (hQ : Q = MQ below (fun _ st o t => zk_postX w K B P0 G0 ps st t o) args s (zk_Kr K).2.2.1 (zk_Kr K).2.2.2 (fun q => w.2.2.2.1 ≤ q)) (hps : zk_all2 (zk_ok P0) (zk_Kp K) ps) (hk2 : zk_Kk K ≠ 2) (hret : K.2.2.2.1 = some .int) {ps1 : List Int} {e1 : List (Nat × Nat × Nat)} {N1 : List Int} {κ : zk_C} {N : List Int} {P : Nat → Option Nat} {F : Nat → va_E} {H : Heap} {locs : List Loc} {ls : Array Slot} {sv : List Value} {cu su pc : Nat} (hG : zk_G w s (P1, G1, ps1, e1, N1, K.2.2.1, X) κ N P F H locs ls) (hext : ∀ a t, P0 a = some t → P1 a = some t) (hef : zk_ef (zk_Ke K) ps P0 G0 F) {r : Nat} (hS : zk_all2 (zk_sv κ.1 N) [(r, 0)] sv) {lo hi lo' hi' : Int} (e2 : κ.1[r]? = some (0, 0, lo', hi')) (e3 : (some ((0, 0, lo, hi) : zk_F), []) ∈ zk_Ka K) (elo : lo ≤ lo') (ehi : hi' ≤ hi) (e4 : decode cc pc = .ok (.ireturn, 1)) (e5 : cu ≤ (zk_Kr K).2.2.1) (e6 : su ≤ (zk_Kr K).2.2.2) (hB : ∀ n : Int, lo' ≤ n → n ≤ hi' → B P0 G0 ps P F n) : W p l e R s m args below meth c H locs cu su Q (F0 m pc ls sv) := by
  obtain ⟨⟨c1, c2, c3⟩, c4, c5, c6, c7, c8, c9, c10, c11, c12, c13, c14, c15, c16, c17, c18, c19, y1, y2, y3⟩ := hE [] P0 G0 (zk_Ke K) (zk_Ka K) ps (zk_Kp K) (zk_all2_len hps).symm (fun _ _ h => h)
  have hG2 := zh_back (ps := ps) (eff := zk_Ke K) (pa := []) hG hext hef (fun q h => absurd h List.not_mem_nil)
  cases sv with
  | nil => exact hS.elim
  | cons v rest =>
    cases rest with
    | cons v2 r2 => exact hS.2.elim
    | nil =>
      obtain ⟨hv, -⟩ := hS
      obtain ⟨n, hn, hok⟩ := zk_all2_get hG.1 e2
      obtain ⟨hv, -⟩ := zh_vi hv e2 hn
      rw [Int.add_zero] at hv
      subst hv
      have hBn := hB n hok.1 hok.2.1
      have hok' : zk_ok P ((0, 0, lo, hi) : zk_F) n := ⟨Int.le_trans elo hok.1, Int.le_trans hok.2.1 ehi, hok.2.2⟩
      have fin : ∀ t : State, t.heap = H → s.WarmedH t.vm → zk_postX w K B P0 G0 ps s t (.returned (some (.int (Int32.ofInt n)))) := fun t ht hWm => zk_fin (u := (P0, G0, ps, zk_Ke K, [], K.2.2.1, X)) (K := K) (al := (some (0, 0, lo, hi), [])) (rn := n) (X0 := fun _ => True) c8 c7 rfl c19 hG2 (by unfold zk_rct; exact if_neg hk2) e3 (fun f h => by cases h; exact ⟨hok', Nat.zero_le _⟩) (fun q h => absurd h List.not_mem_nil) (Or.inl ⟨hk2, hBn⟩) t ht hWm
      have hr := c18.2.1
      have hr : meth.sig.returnType = some .int := hr.trans hret
      refine W.widen e5 e6 ?_
      rw [hQ]
      exact W.iret hx hb hr (fun t ht hWm => fin t ht hWm) hG.2.2.2.2.2.2.2.2.1.2.2 e4 c18.1
end ZI
theorem zh_pa2 {N ps : List Int} {A : List (Nat × Nat)} {x : Int} (h : zk_pa N ps A) : zk_pa (N ++ [x]) ps A := fun q hq => (h q hq).imp (fun n z => ⟨zk_get_snoc z.1, z.2⟩)
theorem zX_bk4c {l : Launch} {w : zk_W} (hW : zh_W w) : zk_metX l w zt_dv zt_TB zK_bk4 zk_tA zB_bk ∧ zk_cok w zt_TB zK_bk4 := by
  have hw := hW.1
  refine zh_methH hW (lk := [(2, 16, 11, 1, 18), (2, 10, 11, 0, 18), (2, 23, 11, 2, 18)]) (KS := [zK_iw3, zK_13, zK_287, zK_16, zK_14]) (km := [15, 16, 177, 19, 17]) (lc := [(1, 107, 15), (0, 111, 16), (0, 434, 177), (0, 124, 19), (0, 118, 17)]) (pl := 1328) (by decide) (by decide +kernel) (by decide +kernel) (by
    intro K h
    rcases List.mem_cons.mp h with rfl | h
    · exact zq_iw3 hW
    rcases List.mem_cons.mp h with rfl | h
    · exact zq_13 hW
    rcases List.mem_cons.mp h with rfl | h
    · exact zq_287 hW
    rcases List.mem_cons.mp h with rfl | h
    · exact zq_16 hW
    rw [List.mem_singleton.mp h]
    exact zq_14 hW) (fun p e R s m args below meth c Q P0 G0 ps X hx hb hA hps hE hQ H locs ls hG => ?_)
  have hlen := (zk_all2_len hps).symm
  have hCL := zq_note_ok zd_X11_back [(11, 1, []), (29, 1, []), (38, 2, []), (45, 3, []), (50, 4, [])]
  have hps0 := hps
  obtain ⟨p0, p1, rfl, k0, k1⟩ := zp_ps2 hps0
  obtain ⟨a, rfl, hp⟩ := zp_this k0
  have h0 : zp_0 [(a : Int), p1] = a := zp_00 rfl
  refine zh_seg (st := []) (eff := zE_bk0) (AL := []) (AN := [zM_14a, zM_14b, zM_20]) (fuel := 174) hx hb hE hlen hCL (by decide +kernel) (fun _ _ h => h) (zh_reb (eff' := zE_bk0) hG hG.2.2.2.2.2.2.2.2.2.1) trivial (fun A hA => Or.inr (fun N' P' F' H' locs' ls' sv' hG' hS' => ?_))
  have hef : zk_ef zE_bk0 [(a : Int), p1] P0 G0 F' := hG'.2.2.2.2.2.2.2.1
  have hext : ∀ a t, P0 a = some t → P' a = some t := hG'.2.2.2.2.2.2.1
  have hfr := zp_ef_fr hef
  have hefK : zk_ef (zk_Ke zK_bk4) [(a : Int), p1] P0 G0 F' := zh_ef (P2 := P') hef (fun _ _ _ => zk_same.rf : zk_ef [] [] P' F' F') hext (by decide +kernel) (fun e h => absurd h List.not_mem_nil)
  simp only [List.mem_cons, List.not_mem_nil, or_false] at hA
  rcases hA with rfl | rfl | rfl
  · have hk4 : N'[4]? = some p1 := zh_pa (j := 1) hG'.2.2.2.2.2.2.2.2.2.1 (List.mem_cons_of_mem _ List.mem_cons_self) rfl
    obtain ⟨z, hz0, z0, z1⟩ := zh_i (i := 0) hG'.1 rfl
    obtain rfl : z = 0 := Int.le_antisymm z1 z0
    have hd : p1 ≤ 0 + -1 := zh_d (x := 4) (y := 0) hG'.2.1 (List.mem_singleton.mpr rfl) hk4 hz0
    refine zI_ret hx hb hE hQ hps (by decide) rfl hG' (fun _ _ h => h) hefK (r := 5) hS' rfl (List.mem_singleton.mpr rfl) (by decide) (by decide) (by decide +kernel) (by decide) (by decide) (fun n n0 n1 => ?_)
    intro im _ h55
    show (¬ (0 ≤ p1 ∧ p1 ≤ 1) → n = -1) ∧ (0 ≤ p1 → p1 ≤ 1 → _)
    exact ⟨fun _ => by omega, fun _ _ => by exfalso; omega⟩
  · have hk4 : N'[4]? = some p1 := zh_pa (j := 1) hG'.2.2.2.2.2.2.2.2.2.1 (List.mem_cons_of_mem _ List.mem_cons_self) rfl
    obtain ⟨z, hz0, z0, z1⟩ := zh_i (i := 0) hG'.1 rfl
    obtain rfl : z = 0 := Int.le_antisymm z1 z0
    have hd : 0 ≤ p1 + -2 := zh_d (x := 0) (y := 4) hG'.2.1 (List.mem_singleton.mpr rfl) hz0 hk4
    refine zI_ret hx hb hE hQ hps (by decide) rfl hG' (fun _ _ h => h) hefK (r := 5) hS' rfl (List.mem_singleton.mpr rfl) (by decide) (by decide) (by decide +kernel) (by decide) (by decide) (fun n n0 n1 => ?_)
    intro im _ h55
    show (¬ (0 ≤ p1 ∧ p1 ≤ 1) → n = -1) ∧ (0 ≤ p1 → p1 ≤ 1 → _)
    exact ⟨fun _ => by omega, fun _ _ => by exfalso; omega⟩
  · obtain ⟨k, hk4, kl, kh⟩ := zh_i (i := 4) hG'.1 rfl
    have hk4' : N'[4]? = some p1 := zh_pa (j := 1) hG'.2.2.2.2.2.2.2.2.2.1 (List.mem_cons_of_mem _ List.mem_cons_self) rfl
    obtain rfl : k = p1 := Option.some.inj (hk4.symm.trans hk4')
    obtain ⟨q, rfl⟩ : ∃ q : Nat, k = (q : Int) := zp_nat kl
    have hq2 : q < 2 := by omega
    have h3 : N'[3]? = some (a : Int) := zh_pa (j := 0) hG'.2.2.2.2.2.2.2.2.2.1 List.mem_cons_self rfl
    obtain ⟨im, him, q55⟩ := zh_r (i := 5) (t := 55) hG'.1 rfl
    obtain ⟨v1, hv1, sv1⟩ := zh_rdf hG'.2.2.1 (x := 3) (k := 1) List.mem_cons_self h3
    have ev1 := zh_vr sv1 rfl him
    have eim : zp_n G0 a 1 = (im : Int) := by
      rw [← zp_nf hfr hp rfl, zI_num hv1, ev1]
      rfl
    obtain ⟨cA, f, o1, o4, o4', o5, o6⟩ := zI_arr hw hG'.2.2.2.2.1 q55
    obtain ⟨wa, wb, rfl, s1, s2⟩ := zp_ps2 (a1 := ((4, 0) : zk_S)) (a2 := ((5, 0) : zk_S)) hS'
    obtain ⟨ek, rk⟩ := zh_vi s1 rfl hk4
    have em := zh_vr s2 rfl him
    rw [Int.add_zero] at ek rk
    subst ek
    subst em
    obtain ⟨i1, i2⟩ := zp_ix (n := 2) rfl hq2 rk
    refine zw_aald (pc := 20) hx hb o6 o4 i1 (by decide +kernel) ?_
    rw [i2, (o5 q hq2).2]
    obtain ⟨z, ez⟩ : ∃ z, zp_n F' im (2000 + q) = z := ⟨_, rfl⟩
    have z1 := (o5 q hq2).1
    rw [ez] at z1 ⊢
    have him0 : ∀ im2 : Nat, zp_n G0 (zp_0 [(a : Int), (q : Int)]) 1 = (im2 : Int) → im2 = im := fun im2 h => by rw [h0, eim] at h; omega
    have hG1 := zh_un hG'
    by_cases hz : 0 ≤ z
    · refine zh_seg (eff := zE_bk0) (AL := []) (AN := [zM_53]) (fuel := 174) hx hb hE hlen hCL (by decide +kernel) hext (zh_reb (eff' := zE_bk0) (hG1.push (f := (2, 10, 0, 0)) (n := z) (show zk_ok P' ((2, 10, 0, 0) : zk_F) z from ⟨hz, z1.2.1, fun h => absurd h (by decide), z1.2.2.2⟩)) (zh_pa2 hG1.2.2.2.2.2.2.2.2.2.1)) (zh_one (zk_sv_last hG1.1 (show zk_ok P' ((2, 10, 0, 0) : zk_F) z from ⟨hz, z1.2.1, fun h => absurd h (by decide), z1.2.2.2⟩))) (fun A hA => Or.inr (fun N2 P2 F2 H2 locs2 ls2 sv2 hG2 hS2 => ?_))
      obtain rfl := List.mem_singleton.mp hA
      have hef2 : zk_ef zE_bk0 [(a : Int), (q : Int)] P' F' F2 := hG2.2.2.2.2.2.2.2.1
      have hext2 : ∀ a t, P' a = some t → P2 a = some t := hG2.2.2.2.2.2.2.1
      have hfr2 := zp_ef_fr hef2
      have hefK2 : zk_ef (zk_Ke zK_bk4) [(a : Int), (q : Int)] P0 G0 F2 := zh_ef hef hef2 hext (by decide +kernel) (by decide +kernel)
      refine zI_ret hx hb hE hQ hps (by decide) rfl hG2 hext hefK2 (r := 4) hS2 rfl (List.mem_singleton.mpr rfl) (by decide) (by decide) (by decide +kernel) (by decide) (by decide) (fun n n0 n1 => ?_)
      intro im2 h2 h55
      obtain rfl := him0 im2 h2
      have e1 : zp_n F' im2 (2000 + q) = zp_n G0 im2 (2000 + q) := zp_nc hfr h55 rfl _
      show (¬ (0 ≤ (q : Int) ∧ (q : Int) ≤ 1) → n = -1) ∧ (0 ≤ (q : Int) → (q : Int) ≤ 1 → (zp_n G0 im2 (2000 + q) < 0 → n = -2) ∧ (0 ≤ zp_n G0 im2 (2000 + q) → n = 0))
      rw [← e1, ez]
      exact ⟨fun h => by exfalso; omega, fun _ _ => ⟨fun h => by exfalso; omega, fun _ => by omega⟩⟩
    · refine zh_seg (eff := zE_bk0) (AL := []) (AN := [zM_32]) (fuel := 174) hx hb hE hlen hCL (by decide +kernel) hext (zh_reb (eff' := zE_bk0) (hG1.push (f := (2, 10, (-1), (-1))) (n := z) (show zk_ok P' ((2, 10, (-1), (-1)) : zk_F) z from ⟨z1.1, z1.2.1, fun _ => Int.not_le.mp hz, z1.2.2.2⟩)) (zh_pa2 hG1.2.2.2.2.2.2.2.2.2.1)) (zh_one (zk_sv_last hG1.1 (show zk_ok P' ((2, 10, (-1), (-1)) : zk_F) z from ⟨z1.1, z1.2.1, fun _ => Int.not_le.mp hz, z1.2.2.2⟩))) (fun A hA => Or.inr (fun N2 P2 F2 H2 locs2 ls2 sv2 hG2 hS2 => ?_))
      obtain rfl := List.mem_singleton.mp hA
      have hef2 : zk_ef zE_bk0 [(a : Int), (q : Int)] P' F' F2 := hG2.2.2.2.2.2.2.2.1
      have hext2 : ∀ a t, P' a = some t → P2 a = some t := hG2.2.2.2.2.2.2.1
      have hfr2 := zp_ef_fr hef2
      have hefK2 : zk_ef (zk_Ke zK_bk4) [(a : Int), (q : Int)] P0 G0 F2 := zh_ef hef hef2 hext (by decide +kernel) (by decide +kernel)
      refine zI_ret hx hb hE hQ hps (by decide) rfl hG2 hext hefK2 (r := 4) hS2 rfl (List.mem_singleton.mpr rfl) (by decide) (by decide) (by decide +kernel) (by decide) (by decide) (fun n n0 n1 => ?_)
      intro im2 h2 h55
      obtain rfl := him0 im2 h2
      have e1 : zp_n F' im2 (2000 + q) = zp_n G0 im2 (2000 + q) := zp_nc hfr h55 rfl _
      show (¬ (0 ≤ (q : Int) ∧ (q : Int) ≤ 1) → n = -1) ∧ (0 ≤ (q : Int) → (q : Int) ≤ 1 → (zp_n G0 im2 (2000 + q) < 0 → n = -2) ∧ (0 ≤ zp_n G0 im2 (2000 + q) → n = 0))
      rw [← e1, ez]
      exact ⟨fun h => by exfalso; omega, fun _ _ => ⟨fun _ => by omega, fun h => by exfalso; omega⟩⟩
theorem zX_im4c {l : Launch} {w : zk_W} (hW : zh_W w) : zk_metX l w zt_dv zt_TB zK_im4 zk_tA zB_im ∧ zk_cok w zt_TB zK_im4 := by
  have hw := hW.1
  refine zh_methH hW (lk := [(2, 16, 11, 1, 18), (3, 7, 9, 19, 0), (2, 10, 11, 0, 18)]) (KS := [zK_iw3, zK_13, zK_1, zK_287, zK_14]) (km := [15, 16, 1, 177, 17]) (lc := [(1, 107, 15), (0, 111, 16), (2, 9, 1), (0, 434, 177), (0, 118, 17)]) (pl := 1318) (by decide) (by decide +kernel) (by decide +kernel) (by
    intro K h
    rcases List.mem_cons.mp h with rfl | h
    · exact zq_iw3 hW
    rcases List.mem_cons.mp h with rfl | h
    · exact zq_13 hW
    rcases List.mem_cons.mp h with rfl | h
    · exact zq_1 hW
    rcases List.mem_cons.mp h with rfl | h
    · exact zq_287 hW
    rw [List.mem_singleton.mp h]
    exact zq_14 hW) (fun p e R s m args below meth c Q P0 G0 ps X hx hb hA hps hE hQ H locs ls hG => ?_)
  have hlen := (zk_all2_len hps).symm
  have hCL := zq_note_ok zd_X11_image [(11, 1, []), (30, 2, []), (46, 3, []), (51, 4, [])]
  have hps0 := hps
  obtain ⟨p0, p1, rfl, k0, k1⟩ := zp_ps2 hps0
  obtain ⟨a, rfl, hp⟩ := zp_this k0
  have h0 : zp_0 [(a : Int), p1] = a := zp_00 rfl
  refine zh_seg (st := []) (eff := zE_im0) (AL := []) (AN := [zM_14a, zM_14b, zM_20]) (fuel := 182) hx hb hE hlen hCL (by decide +kernel) (fun _ _ h => h) (zh_reb (eff' := zE_im0) hG hG.2.2.2.2.2.2.2.2.2.1) trivial (fun A hA => Or.inr (fun N' P' F' H' locs' ls' sv' hG' hS' => ?_))
  have hef : zk_ef zE_im0 [(a : Int), p1] P0 G0 F' := hG'.2.2.2.2.2.2.2.1
  have hext : ∀ a t, P0 a = some t → P' a = some t := hG'.2.2.2.2.2.2.1
  have hfr := zp_ef_fr hef
  have hefK : zk_ef (zk_Ke zK_im4) [(a : Int), p1] P0 G0 F' := zh_ef (P2 := P') hef (fun _ _ _ => zk_same.rf : zk_ef [] [] P' F' F') hext (by decide +kernel) (fun e h => absurd h List.not_mem_nil)
  simp only [List.mem_cons, List.not_mem_nil, or_false] at hA
  rcases hA with rfl | rfl | rfl
  · have hk4 : N'[4]? = some p1 := zh_pa (j := 1) hG'.2.2.2.2.2.2.2.2.2.1 (List.mem_cons_of_mem _ List.mem_cons_self) rfl
    obtain ⟨z, hz0, z0, z1⟩ := zh_i (i := 0) hG'.1 rfl
    obtain rfl : z = 0 := Int.le_antisymm z1 z0
    have hd : p1 ≤ 0 + -1 := zh_d (x := 4) (y := 0) hG'.2.1 (List.mem_singleton.mpr rfl) hk4 hz0
    refine zI_ret hx hb hE hQ hps (by decide) rfl hG' (fun _ _ h => h) hefK (r := 5) hS' rfl (List.mem_singleton.mpr rfl) (by decide) (by decide) (by decide +kernel) (by decide) (by decide) (fun n n0 n1 => ?_)
    intro im _ h55 j hj
    refine ⟨fun _ => zp_nc hfr h55 rfl _, fun e => ?_⟩
    have e : (j : Int) = p1 := e
    exfalso
    omega
  · have hk4 : N'[4]? = some p1 := zh_pa (j := 1) hG'.2.2.2.2.2.2.2.2.2.1 (List.mem_cons_of_mem _ List.mem_cons_self) rfl
    obtain ⟨z, hz0, z0, z1⟩ := zh_i (i := 0) hG'.1 rfl
    obtain rfl : z = 0 := Int.le_antisymm z1 z0
    have hd : 0 ≤ p1 + -2 := zh_d (x := 0) (y := 4) hG'.2.1 (List.mem_singleton.mpr rfl) hz0 hk4
    refine zI_ret hx hb hE hQ hps (by decide) rfl hG' (fun _ _ h => h) hefK (r := 5) hS' rfl (List.mem_singleton.mpr rfl) (by decide) (by decide) (by decide +kernel) (by decide) (by decide) (fun n n0 n1 => ?_)
    intro im _ h55 j hj
    refine ⟨fun _ => zp_nc hfr h55 rfl _, fun e => ?_⟩
    have e : (j : Int) = p1 := e
    exfalso
    omega
  · obtain ⟨k, hk4, kl, kh⟩ := zh_i (i := 4) hG'.1 rfl
    have hk4' : N'[4]? = some p1 := zh_pa (j := 1) hG'.2.2.2.2.2.2.2.2.2.1 (List.mem_cons_of_mem _ List.mem_cons_self) rfl
    obtain rfl : k = p1 := Option.some.inj (hk4.symm.trans hk4')
    obtain ⟨q, rfl⟩ : ∃ q : Nat, k = (q : Int) := zp_nat kl
    have hq2 : q < 2 := by omega
    have h3 : N'[3]? = some (a : Int) := zh_pa (j := 0) hG'.2.2.2.2.2.2.2.2.2.1 List.mem_cons_self rfl
    obtain ⟨im, him, q55⟩ := zh_r (i := 5) (t := 55) hG'.1 rfl
    obtain ⟨v1, hv1, sv1⟩ := zh_rdf hG'.2.2.1 (x := 3) (k := 1) List.mem_cons_self h3
    have ev1 := zh_vr sv1 rfl him
    have eim : zp_n G0 a 1 = (im : Int) := by
      rw [← zp_nf hfr hp rfl, zI_num hv1, ev1]
      rfl
    obtain ⟨cA, f, o1, o4, o4', o5, o6⟩ := zI_arr hw hG'.2.2.2.2.1 q55
    obtain ⟨wa, wb, rfl, s1, s2⟩ := zp_ps2 (a1 := ((4, 0) : zk_S)) (a2 := ((5, 0) : zk_S)) hS'
    obtain ⟨ek, rk⟩ := zh_vi s1 rfl hk4
    have em := zh_vr s2 rfl him
    rw [Int.add_zero] at ek rk
    subst ek
    subst em
    obtain ⟨i1, i2⟩ := zp_ix (n := 2) rfl hq2 rk
    refine zw_aald (pc := 20) hx hb o6 o4 i1 (by decide +kernel) ?_
    rw [i2, (o5 q hq2).2]
    obtain ⟨z, ez⟩ : ∃ z, zp_n F' im (2000 + q) = z := ⟨_, rfl⟩
    have z1 := (o5 q hq2).1
    rw [ez] at z1 ⊢
    have him0 : ∀ im2 : Nat, zp_n G0 (zp_0 [(a : Int), (q : Int)]) 1 = (im2 : Int) → im2 = im := fun im2 h => by rw [h0, eim] at h; omega
    have hG1 := zh_un hG'
    by_cases hz : 0 ≤ z
    · refine zh_seg (eff := zE_im0) (AL := []) (AN := [zM_54]) (fuel := 182) hx hb hE hlen hCL (by decide +kernel) hext (zh_reb (eff' := zE_im0) (hG1.push (f := (2, 10, 0, 0)) (n := z) (show zk_ok P' ((2, 10, 0, 0) : zk_F) z from ⟨hz, z1.2.1, fun h => absurd h (by decide), z1.2.2.2⟩)) (zh_pa2 hG1.2.2.2.2.2.2.2.2.2.1)) (zh_one (zk_sv_last hG1.1 (show zk_ok P' ((2, 10, 0, 0) : zk_F) z from ⟨hz, z1.2.1, fun h => absurd h (by decide), z1.2.2.2⟩))) (fun A hA => Or.inr (fun N2 P2 F2 H2 locs2 ls2 sv2 hG2 hS2 => ?_))
      obtain rfl := List.mem_singleton.mp hA
      have hef2 : zk_ef zE_im0 [(a : Int), (q : Int)] P' F' F2 := hG2.2.2.2.2.2.2.2.1
      have hext2 : ∀ a t, P' a = some t → P2 a = some t := hG2.2.2.2.2.2.2.1
      have hfr2 := zp_ef_fr hef2
      have hefK2 : zk_ef (zk_Ke zK_im4) [(a : Int), (q : Int)] P0 G0 F2 := zh_ef hef hef2 hext (by decide +kernel) (by decide +kernel)
      refine zI_ret hx hb hE hQ hps (by decide) rfl hG2 hext hefK2 (r := 4) hS2 rfl (List.mem_singleton.mpr rfl) (by decide) (by decide) (by decide +kernel) (by decide) (by decide) (fun n n0 n1 => ?_)
      intro im2 h2 h55 j hj
      obtain rfl := him0 im2 h2
      have e2 : zp_n F2 im2 (2000 + j) = zp_n F' im2 (2000 + j) := zp_nc hfr2 q55 rfl _
      have e1 : zp_n F' im2 (2000 + j) = zp_n G0 im2 (2000 + j) := zp_nc hfr h55 rfl _
      refine ⟨fun _ => e2.trans e1, fun e => ?_⟩
      have e : (j : Int) = (q : Int) := e
      obtain rfl : j = q := Int.ofNat.inj e
      rw [e2, ez]
      exact hz
    · refine zh_seg (eff := zE_im0) (AL := []) (AN := [zM_40]) (fuel := 182) hx hb hE hlen hCL (by decide +kernel) hext (zh_reb (eff' := zE_im0) (hG1.push (f := (2, 10, (-1), (-1))) (n := z) (show zk_ok P' ((2, 10, (-1), (-1)) : zk_F) z from ⟨z1.1, z1.2.1, fun _ => Int.not_le.mp hz, z1.2.2.2⟩)) (zh_pa2 hG1.2.2.2.2.2.2.2.2.2.1)) (zh_one (zk_sv_last hG1.1 (show zk_ok P' ((2, 10, (-1), (-1)) : zk_F) z from ⟨z1.1, z1.2.1, fun _ => Int.not_le.mp hz, z1.2.2.2⟩))) (fun A hA => Or.inr (fun N2 P2 F2 H2 locs2 ls2 sv2 hG2 hS2 => ?_))
      obtain rfl := List.mem_singleton.mp hA
      have hef2 : zk_ef zE_im0 [(a : Int), (q : Int)] P' F' F2 := hG2.2.2.2.2.2.2.2.1
      have hext2 : ∀ a t, P' a = some t → P2 a = some t := hG2.2.2.2.2.2.2.1
      have hfr2 := zp_ef_fr hef2
      have hefK2 : zk_ef (zk_Ke zK_im4) [(a : Int), (q : Int)] P0 G0 F2 := zh_ef hef hef2 hext (by decide +kernel) (by decide +kernel)
      obtain ⟨k, hk24, kl2, kh2⟩ := zh_i (i := 4) hG2.1 rfl
      have hk24' : N2[4]? = some (q : Int) := zh_pa (j := 1) hG2.2.2.2.2.2.2.2.2.2.1 (List.mem_cons_of_mem _ List.mem_cons_self) rfl
      obtain rfl : k = (q : Int) := Option.some.inj (hk24.symm.trans hk24')
      have h23 : N2[3]? = some (a : Int) := zh_pa (j := 0) hG2.2.2.2.2.2.2.2.2.2.1 List.mem_cons_self rfl
      obtain ⟨jm, hjm, qj55⟩ := zh_r (i := 5) (t := 55) hG2.1 rfl
      obtain ⟨v2, hv2, sv2'⟩ := zh_rdf hG2.2.2.1 (x := 3) (k := 1) List.mem_cons_self h23
      have ev2 := zh_vr sv2' rfl hjm
      have ejm : zp_n F' a 1 = (jm : Int) := by
        rw [← zp_nf hfr2 (hext _ _ hp) rfl, zI_num hv2, ev2]
        rfl
      have ejm2 : zp_n F' a 1 = (im : Int) := (zp_nf hfr hp rfl).trans eim
      obtain rfl : jm = im := by rw [ejm] at ejm2; omega
      obtain ⟨nw, hnw, q10⟩ := zh_r (i := 6) (t := 10) hG2.1 rfl
      obtain ⟨cB, g, g1, g4, g4', g5, g6⟩ := zI_arr hw hG2.2.2.2.2.1 qj55
      obtain ⟨wn, wa, wb, rfl, t1, t2, t3⟩ := zp_ps3 (a1 := ((6, 0) : zk_S)) (a2 := ((4, 0) : zk_S)) (a3 := ((5, 0) : zk_S)) hS2
      have en := zh_vr t1 rfl hnw
      obtain ⟨ek, rk2⟩ := zh_vi t2 rfl hk24
      have em := zh_vr t3 rfl hjm
      rw [Int.add_zero] at ek
      subst en
      subst ek
      subst em
      have hT10 : w.1[10]? = some (zt_types.getD 10 (0, 0, 0, [])) := by rw [hw]; rfl
      obtain ⟨fs, b1, b2, b3, b4⟩ := zk_obj hG2.2.2.2.2.1 q10 hT10 rfl
      obtain ⟨r, hr, b5⟩ := b3
      have hrn : zk_rn w (3, 2, 2, [(2, 10, (-1), 0)]) = r.1 := by
        unfold zk_rn
        rw [show w.1[(zk_f0 ((3, 2, 2, [(2, 10, (-1), 0)]) : zk_T)).2.1]? = some (zt_types.getD 10 (0, 0, 0, [])) from hT10]
        dsimp only
        rw [List.getD_eq_getElem?_getD, hr]
        rfl
      have p4 := g4
      have p4' := g4'
      rw [hrn] at p4 p4'
      have hK : va_K w.2.2.1 w.2.1 [] s := (hE [] P0 G0 (zk_Ke zK_im4) (zk_Ka zK_im4) [(a : Int), (q : Int)] (zk_Kp zK_im4) hlen (fun _ _ h => h)).2.2.2.2.1
      refine zw_aast (pc := 40) hx hb hK hr g6 p4 p4' i1 (o := some nw) (fun v hv => by cases hv; exact ⟨fs, r, hr, b5⟩) (by decide +kernel) (fun H3 jj e1 hz3 hk3 => ?_)
      rw [i2] at e1
      have hsame : zk_same (fun k => 2000 ≤ k ∧ k ≤ 1000000000000) (F2 jm) (.inl (cB, 2, .inr (.inr (.inr (.inr (zk_up g q (some nw)))))) : va_E) := by
        rw [g1]
        exact ⟨rfl, rfl, fun i hi h => absurd (show 2000 ≤ 2000 + i ∧ 2000 + i ≤ 1000000000000 from ⟨by omega, by have : i < 2 := hi; omega⟩) h⟩
      have hel : ∀ i, i < 2 → zk_fv P2 (zk_fj (3, 2, 2, [(2, 10, (-1), 0)]) i) (va_rf (zk_up g q (some nw) i)) := by
        intro i hi
        by_cases hij : i = q
        · rw [hij, zk_up_self]
          refine ⟨(nw : Int), ⟨by show (-1 : Int) ≤ (nw : Int); omega, by omega, fun h => absurd h (show ¬ ((0 : Int) < 0) by decide), fun _ => q10⟩, ?_⟩
          show va_rf (some nw) = zk_mk 2 (nw : Int)
          rw [zk_mk_ref (Nat.le_refl 2), if_neg (by omega), Int.toNat_natCast]
          rfl
        · rw [zk_up_ne hij]
          exact ⟨_, (g5 i hi).1, (g5 i hi).2⟩
      have hG3 := (zh_back (ps := [(a : Int), (q : Int)]) (eff := zk_Ke zK_im4) (pa := [(0, 3), (1, 4)]) hG2 hext hefK2 hG2.2.2.2.2.2.2.2.2.2.1).write (e' := (.inl (cB, 2, .inr (.inr (.inr (.inr (zk_up g q (some nw)))))) : va_E)) (L := [⟨jm, jj⟩]) (Pk := fun k => 2000 ≤ k ∧ k ≤ 1000000000000) (A := []) qj55 (show w.1[55]? = some ((3, 2, 2, [(2, 10, (-1), 0)]) : zk_T) by rw [hw]; rfl) ⟨cB, 2, _, rfl, Nat.le_refl _, Nat.le_refl _, g4, g4', hel⟩ (show va_at _ _ (jm, .inl (cB, 2, .inr (.inr (.inr (.inr _))))) H3 from e1) hz3 hk3 (fun x hx => by rw [List.mem_singleton.mp hx]) hsame (Or.inr (fun k hk => ⟨(55, 1001, 0), (show ((55, 1001, 0) : Nat × Nat × Nat) ∈ zk_Ke zK_im4 by decide +kernel), rfl, hk, Or.inl rfl⟩)) trivial (fun x h => absurd h List.not_mem_nil)
      have hext3 : ∀ a t, P0 a = some t → P2 a = some t := fun x y h => hext2 _ _ (hext _ _ h)
      refine zh_seg (st := []) (eff := zE_im0) (AL := []) (AN := [zM_54]) (fuel := 182) hx hb hE hlen hCL (by decide +kernel) hext3 (zh_reb (eff' := zE_im0) hG3 hG3.2.2.2.2.2.2.2.2.2.1) zh_nil (fun A hA => Or.inr (fun N4 P4 F4 H4 locs4 ls4 sv4 hG4 hS4 => ?_))
      obtain rfl := List.mem_singleton.mp hA
      have hef3 : zk_ef (zk_Ke zK_im4) [(a : Int), (q : Int)] P0 G0 (zk_up F2 jm (.inl (cB, 2, .inr (.inr (.inr (.inr (zk_up g q (some nw)))))) : va_E)) := hG3.2.2.2.2.2.2.2.1
      have hef4 : zk_ef zE_im0 [(a : Int), (q : Int)] P2 (zk_up F2 jm (.inl (cB, 2, .inr (.inr (.inr (.inr (zk_up g q (some nw)))))) : va_E)) F4 := hG4.2.2.2.2.2.2.2.1
      have hfr4 := zp_ef_fr hef4
      have hefK4 : zk_ef (zk_Ke zK_im4) [(a : Int), (q : Int)] P0 G0 F4 := zh_ef hef3 hef4 hext3 (by decide +kernel) (by decide +kernel)
      refine zI_ret hx hb hE hQ hps (by decide) rfl hG4 hext3 hefK4 (r := 4) hS4 rfl (List.mem_singleton.mpr rfl) (by decide) (by decide) (by decide +kernel) (by decide) (by decide) (fun n n0 n1 => ?_)
      intro im2 h2 h55 j hj
      obtain rfl := him0 im2 h2
      have e4 := zp_nc hfr4 qj55 rfl (2000 + j)
      have e5 : zp_n (zk_up F2 im2 (.inl (cB, 2, .inr (.inr (.inr (.inr (zk_up g q (some nw)))))) : va_E)) im2 (2000 + j) = zp_num (va_rf (zk_up g q (some nw) j)) := zI_num (by rw [zk_up_self]; exact zI_rdq hj)
      have e4 := e4.trans e5
      refine ⟨fun e => ?_, fun e => ?_⟩
      · have e : (j : Int) ≠ (q : Int) := e
        rw [zk_up_ne (by omega), (g5 j hj).2, zp_num_mk (f := (2, 10, (-1), 0)) (g5 j hj).1 (Nat.le_refl 2)] at e4
        exact e4.trans ((zp_nc hfr2 q55 rfl _).trans (zp_nc hfr h55 rfl _))
      · have e : (j : Int) = (q : Int) := e
        obtain rfl : j = q := Int.ofNat.inj e
        rw [zk_up_self] at e4
        rw [e4]
        show (0 : Int) ≤ (nw : Int)
        omega
def zψ_im4 : (Nat → Option Nat) → (Nat → Nat → Int) → List Int → (Nat → Option Nat) → (Nat → Nat → Int) → Int → Prop := fun P G ps P' G' rn => P' = P ∧ ∀ kp : Nat, G (zp_0 ps) 5 = (kp : Int) → ∀ j : Nat, j < 2 → ((j : Int) ≠ ps.getD 1 0 → G' kp (2000 + j) = G kp (2000 + j)) ∧ ((j : Int) = ps.getD 1 0 → G' kp (2000 + j) = 1)
theorem zX_im4 {l : Launch} {w : zk_W} (hW : zh_W w) : zk_metX l w zt_dv zt_TB zK_im (zp_A zp_tA) (zp_B zψ_im4) ∧ zk_cok w zt_TB zK_im := by
  refine zp_meth hW (pl := 1569) rfl (by decide +kernel) (fun p e R s m args below meth c Q u hx hb hE hQ hU5 heff hnL hok hφ => ?_)
  have hw := hW.1
  obtain ⟨p0, p1, hps, k0, k1⟩ := zp_ps2 hok
  obtain ⟨a, rfl, hp⟩ := zp_this k0
  have hrm : zk_Kr (zk_ev (zp_E zK_im)) = zk_Kr zK_im := rfl
  rw [hps] at hφ ⊢
  have hi1 := zp_int k1
  show zp_J p l e R s m args below meth c Q w u [] 0 [(0, 2, (a : Int)), (1, 0, p1)] [] u.1 (zp_n u.2.1)
  refine zp_kn (k := 3) (a := a) hw (show zp_fd 13 3 = some (12, 2, 59, 0, 0) from rfl) rfl hp (fun hk3 => ?_)
  obtain ⟨b3, hb3, hq3⟩ := zp_this hk3
  refine zp_kn (k := 4) (a := a) hw (show zp_fd 13 4 = some (12, 2, 60, 0, 0) from rfl) rfl hp (fun hk4 => ?_)
  obtain ⟨b4, hb4, hq4⟩ := zp_this hk4
  refine zp_kn (k := 5) (a := a) hw (show zp_fd 13 5 = some (12, 2, 61, 0, 0) from rfl) rfl hp (fun hk5 => ?_)
  obtain ⟨b5, hb5, hq5⟩ := zp_this hk5
  refine zp_kx hw hq3 zl_T59 rfl (fun hkx => ?_)
  obtain ⟨f0, hf0, hxi⟩ := hkx
  have hlaws : zk_laws f0 0 := hxi.1 rfl
  have hf0 : ∀ j, j < 5580 → f0 j = zp_n u.2.1 b3 (2000 + j) := hf0
  refine zp_kaT hw hq3 zl_T59 rfl zl_kd (fun hka => ?_)
  have hka : ∀ j, j < 5580 → zk_ok u.1 (zk_fj zl_T j) (zp_n u.2.1 b3 (2000 + j)) := hka
  refine zp_kx hw hq4 (T := zl_T2) rfl rfl (fun hkx => ?_)
  obtain ⟨f1, hf1, hxi1⟩ := hkx
  have hl1 : zk_laws f1 0 ∧ zk_laws f1 5580 := hxi1.2 rfl
  have hf1 : ∀ j, j < 11160 → f1 j = zp_n u.2.1 b4 (2000 + j) := hf1
  refine zp_kaT hw hq4 (T := zl_T2) rfl rfl zl_kd2 (fun hkb => ?_)
  have hkb : ∀ j, j < 11160 → zk_ok u.1 (zk_fj zl_T2 j) (zp_n u.2.1 b4 (2000 + j)) := hkb
  have loop0 : p1 = 0 → ∀ (n i : Nat) (G : Nat → Nat → Int), 5580 - i < n → i ≤ 5580 → (∀ k, G a k = zp_set (zp_n u.2.1) a 0 0 a k) → (∀ k, G b3 k = zp_n u.2.1 b3 k) → (∀ k, G b5 k = zp_n u.2.1 b5 k) → (∀ j, j < 0 ∨ 0 + i ≤ j → G b4 (2000 + j) = zp_n u.2.1 b4 (2000 + j)) → (∀ j, j < i → G b4 (2000 + (0 + j)) = zp_n u.2.1 b3 (2000 + j)) → zp_J p l e R s m args below meth c Q w u [b4] 23 [(2, 0, (i : Int)), (0, 2, (a : Int)), (1, 0, 0)] [] u.1 G := by
    intro hp1 n
    induction n with
    | zero => intro i G h; exact absurd h (Nat.not_lt_zero _)
    | succ n ih =>
      intro i G hn hi za z3 z5 r0 r1
      refine zp_load (pc := 23) hx hb (zd_X12_image (23, .iload_n 2, 1, 0, []) (List.mem_of_getElem? (i := 15) rfl)) rfl (j := 0) rfl ?_
      refine zp_const (pc := 24) hx hb (zd_X12_image (24, .sipush 5580, 3, 0, []) (List.mem_of_getElem? (i := 16) rfl)) rfl rfl ?_
      refine zp_icmp (pc := 27) (tgt := 54) hx hb (zd_X12_image (27, .if_icmp .ge 27, 3, 0, []) (List.mem_of_getElem? (i := 17) rfl)) rfl (fun (hc200 : 5580 ≤ (i : Int)) => ?_) (fun (hc200 : ¬ (5580 ≤ (i : Int))) => ?_)
      · have hi9 : i = 5580 := by omega
        subst hi9
        refine zp_strong hw hq4 (T := zl_T2) rfl rfl (fun f hf => ⟨fun z => absurd z (by decide), fun _ => ?_⟩) ?_
        · have hf : ∀ j, j < 11160 → f j = G b4 (2000 + j) := hf
          exact ⟨zl_cp hlaws (fun j hj => by rw [hf _ (by omega), hf0 _ (by omega), r1 j hj, Nat.zero_add]) (fun _ _ _ => Or.inr trivial) (fun j hj => ⟨u.1, by rw [Nat.zero_add, hf0 j hj]; exact hka j hj⟩), zl_cp hl1.2 (fun j hj => by rw [hf _ (by omega), hf1 _ (by omega), r0 _ (by omega)]) (fun _ _ _ => Or.inr trivial) (fun j hj => ⟨u.1, by rw [hf1 _ (by omega), ← zl_fj2 (i := j) (k := 1) hj (by omega : 5580 + j = 5580 * 1 + j)]; exact hkb _ (by omega)⟩)⟩
        refine zp_load (pc := 54) hx hb (zd_X12_image (54, .aload_n 0, 1, 0, []) (List.mem_of_getElem? (i := 32) rfl)) rfl (j := 1) rfl ?_
        refine zp_getf (n := (b5 : Int)) (pc := 55) hx hb hE hw (zd_X12_image (55, .getfield 19, 3, 0, []) (List.mem_of_getElem? (i := 33) rfl)) (j := 23) rfl rfl rfl hp ((za 5).trans ((zp_set_ne (Or.inr (by decide))).trans hb5)) ?_
        refine zp_load (pc := 58) hx hb (zd_X12_image (58, .iload_n 1, 1, 0, []) (List.mem_of_getElem? (i := 34) rfl)) rfl (j := 2) rfl ?_
        refine zp_const (pc := 59) hx hb (zd_X12_image (59, .iconst 1, 1, 0, []) (List.mem_of_getElem? (i := 35) rfl)) rfl rfl ?_
        refine zp_zast (j := 0) (pc := 60) hx hb hw heff (zd_X12_image (60, .bastore, 1, 0, []) (List.mem_of_getElem? (i := 36) rfl)) (show zp_ia 4 61 = some (2, 0, 0, 0, 1) from rfl) hq5 (by omega) (by omega) (zp_o0 (by omega) (by omega) (by omega) (by omega)) (by omega) rfl ?_
        refine zp_load (pc := 61) hx hb (zd_X12_image (61, .aload_n 0, 1, 0, []) (List.mem_of_getElem? (i := 37) rfl)) rfl (j := 1) rfl ?_
        refine zp_const (pc := 62) hx hb (zd_X12_image (62, .iconst 0, 1, 0, []) (List.mem_of_getElem? (i := 38) rfl)) rfl rfl ?_
        refine zp_call (pc := 63) (how := 0) (idx := 170) (mi := 183) (S := []) hx hb hE hw heff hrm (zX_te13 hW) rfl (j := 0) rfl rfl (by decide +kernel) (zd_X12_image (63, .invokevirtual 170, 3, 0, []) (List.mem_of_getElem? (i := 39) rfl)) [(a : Int), 0] rfl ⟨zp_o2 hp, zp_o0 (by omega) (by omega) (by omega) (by omega), trivial⟩ (Nat.le_of_ble_eq_true rfl) trivial (fun al hal rnt Pt Gt hextt hfrt hokt hcst hpsit => ?_)
        obtain rfl := List.mem_singleton.mp hal
        have hrt := zp_int (hokt _ rfl).1
        obtain ⟨rfl, hrnt⟩ := hpsit
        have hrnt : rnt = 0 := hrnt
        refine zp_iret (pc := 66) (n := rnt) hx hb hE hQ hU5 rfl (by decide) (zd_X12_image (66, .ireturn, 1, 0, []) (List.mem_of_getElem? (i := 40) rfl)) (j := 0) rfl (zp_o0 (by omega) (by omega) (by omega) (by omega)) ?_
        rw [hps]
        refine ⟨rfl, fun kp h5 j hj => ?_⟩
        have h5 : zp_n u.2.1 a 5 = (kp : Int) := h5
        obtain rfl : b5 = kp := by omega
        show ((j : Int) ≠ p1 → Gt b5 (2000 + j) = zp_n u.2.1 b5 (2000 + j)) ∧ ((j : Int) = p1 → Gt b5 (2000 + j) = 1)
        have e5 := zp_nc hfrt hq5 rfl (2000 + j)
        rw [e5]
        obtain rfl | rfl : j = 0 ∨ j = 1 := by omega
        · exact ⟨fun h => absurd (by rw [hp1]; rfl) h, fun _ => zp_set_eq rfl rfl⟩
        · exact ⟨fun _ => (zp_set_ne (Or.inr (by decide))).trans (z5 _), fun h => absurd h (by rw [hp1]; decide)⟩
      · refine zp_load (pc := 30) hx hb (zd_X12_image (30, .aload_n 0, 1, 0, []) (List.mem_of_getElem? (i := 18) rfl)) rfl (j := 1) rfl ?_
        refine zp_getf (n := (b4 : Int)) (pc := 31) hx hb hE hw (zd_X12_image (31, .getfield 16, 3, 0, []) (List.mem_of_getElem? (i := 19) rfl)) (j := 22) rfl rfl rfl hp ((za 4).trans ((zp_set_ne (Or.inr (by decide))).trans hb4)) ?_
        refine zp_const (pc := 34) hx hb (zd_X12_image (34, .sipush 5580, 3, 0, []) (List.mem_of_getElem? (i := 20) rfl)) rfl rfl ?_
        refine zp_load (pc := 37) hx hb (zd_X12_image (37, .iload_n 1, 1, 0, []) (List.mem_of_getElem? (i := 21) rfl)) rfl (j := 2) rfl ?_
        refine zp_mul (n := 0) (pc := 38) hx hb (zd_X12_image (38, .imul, 1, 0, []) (List.mem_of_getElem? (i := 22) rfl)) (by omega) (zp_r0 (by omega) (by omega)) ?_
        refine zp_load (pc := 39) hx hb (zd_X12_image (39, .iload_n 2, 1, 0, []) (List.mem_of_getElem? (i := 23) rfl)) rfl (j := 0) rfl ?_
        refine zp_add (n := (i : Int)) (pc := 40) hx hb (zd_X12_image (40, .iadd, 1, 0, []) (List.mem_of_getElem? (i := 24) rfl)) (by omega) (zp_r0 (by omega) (by omega)) ?_
        refine zp_load (pc := 41) hx hb (zd_X12_image (41, .aload_n 0, 1, 0, []) (List.mem_of_getElem? (i := 25) rfl)) rfl (j := 1) rfl ?_
        refine zp_getf (n := (b3 : Int)) (pc := 42) hx hb hE hw (zd_X12_image (42, .getfield 13, 3, 0, []) (List.mem_of_getElem? (i := 26) rfl)) (j := 21) rfl rfl rfl hp ((za 3).trans ((zp_set_ne (Or.inr (by decide))).trans hb3)) ?_
        refine zp_load (pc := 45) hx hb (zd_X12_image (45, .iload_n 2, 1, 0, []) (List.mem_of_getElem? (i := 27) rfl)) rfl (j := 0) rfl ?_
        refine zp_ialdT (j := i) (v := (G b3 (2000 + i))) (pc := 46) hx hb hw (zd_X12_image (46, .iaload, 1, 0, []) (List.mem_of_getElem? (i := 28) rfl)) zl_T59 rfl (zl_kd i) hq3 rfl (show i < 5580 by omega) rfl (fun hrow => ?_)
        refine zp_iastT (j := i) (pc := 47) hx hb hw heff (zd_X12_image (47, .iastore, 1, 0, []) (List.mem_of_getElem? (i := 29) rfl)) (T := zl_T2) rfl rfl (zl_kd2 _) hq4 (by omega) (show i < 11160 by omega) (by omega) (by rw [zl_fj2 (i := i) (k := 0) (by omega) (by omega)]; exact hrow) (Or.inl (List.mem_singleton.mpr rfl)) rfl ?_
        refine zp_iinc (L' := [(2, 0, ((i : Int) + 1)), (0, 2, (a : Int)), (1, 0, 0)]) (n := ((i : Int) + 1)) (pc := 48) hx hb hnL (zd_X12_image (48, .iinc 2 1, 3, 0, []) (List.mem_of_getElem? (i := 30) rfl)) (j := 0) rfl (by omega) (zp_r0 (by omega) (by omega)) rfl rfl ?_
        refine zp_goto (tgt := 23) (pc := 51) hx hb (zd_X12_image (51, .goto (-28), 3, 0, []) (List.mem_of_getElem? (i := 31) rfl)) rfl ?_
        refine ih (i + 1) _ (by omega) (by omega) (fun k => (zp_set_ne (Or.inl (zp_pne hp hq4 (by decide)))).trans (za k)) (fun k => (zp_set_ne (Or.inl (zp_pne hq3 hq4 (by decide)))).trans (z3 k)) (fun k => (zp_set_ne (Or.inl (zp_pne hq5 hq4 (by decide)))).trans (z5 k)) (fun j hj => (zp_set_ne (Or.inr (by omega))).trans (r0 j (by omega))) (fun j hj => ?_)
        by_cases hji : j = i
        · subst hji
          exact (zp_set_eq rfl (by omega)).trans (z3 _)
        · exact (zp_set_ne (Or.inr (by omega))).trans (r1 j (by omega))
  have loop1 : p1 = 1 → ∀ (n i : Nat) (G : Nat → Nat → Int), 5580 - i < n → i ≤ 5580 → (∀ k, G a k = zp_set (zp_n u.2.1) a 0 0 a k) → (∀ k, G b3 k = zp_n u.2.1 b3 k) → (∀ k, G b5 k = zp_n u.2.1 b5 k) → (∀ j, j < 5580 ∨ 5580 + i ≤ j → G b4 (2000 + j) = zp_n u.2.1 b4 (2000 + j)) → (∀ j, j < i → G b4 (2000 + (5580 + j)) = zp_n u.2.1 b3 (2000 + j)) → zp_J p l e R s m args below meth c Q w u [b4] 23 [(2, 0, (i : Int)), (0, 2, (a : Int)), (1, 0, 1)] [] u.1 G := by
    intro hp1 n
    induction n with
    | zero => intro i G h; exact absurd h (Nat.not_lt_zero _)
    | succ n ih =>
      intro i G hn hi za z3 z5 r0 r1
      refine zp_load (pc := 23) hx hb (zd_X12_image (23, .iload_n 2, 1, 0, []) (List.mem_of_getElem? (i := 15) rfl)) rfl (j := 0) rfl ?_
      refine zp_const (pc := 24) hx hb (zd_X12_image (24, .sipush 5580, 3, 0, []) (List.mem_of_getElem? (i := 16) rfl)) rfl rfl ?_
      refine zp_icmp (pc := 27) (tgt := 54) hx hb (zd_X12_image (27, .if_icmp .ge 27, 3, 0, []) (List.mem_of_getElem? (i := 17) rfl)) rfl (fun (hc201 : 5580 ≤ (i : Int)) => ?_) (fun (hc201 : ¬ (5580 ≤ (i : Int))) => ?_)
      · have hi9 : i = 5580 := by omega
        subst hi9
        refine zp_strong hw hq4 (T := zl_T2) rfl rfl (fun f hf => ⟨fun z => absurd z (by decide), fun _ => ?_⟩) ?_
        · have hf : ∀ j, j < 11160 → f j = G b4 (2000 + j) := hf
          exact ⟨zl_cp hl1.1 (fun j hj => by rw [hf _ (by omega), hf1 _ (by omega), r0 _ (by omega)]) (fun _ _ _ => Or.inr trivial) (fun j hj => ⟨u.1, by rw [Nat.zero_add, hf1 j (by omega), ← zl_fj2 (i := j) (k := 0) hj (by omega : j = 5580 * 0 + j)]; exact hkb j (by omega)⟩), zl_cp hlaws (fun j hj => by rw [hf _ (by omega), hf0 _ (by omega), r1 j hj, Nat.zero_add]) (fun _ _ _ => Or.inr trivial) (fun j hj => ⟨u.1, by rw [Nat.zero_add, hf0 j hj]; exact hka j hj⟩)⟩
        refine zp_load (pc := 54) hx hb (zd_X12_image (54, .aload_n 0, 1, 0, []) (List.mem_of_getElem? (i := 32) rfl)) rfl (j := 1) rfl ?_
        refine zp_getf (n := (b5 : Int)) (pc := 55) hx hb hE hw (zd_X12_image (55, .getfield 19, 3, 0, []) (List.mem_of_getElem? (i := 33) rfl)) (j := 23) rfl rfl rfl hp ((za 5).trans ((zp_set_ne (Or.inr (by decide))).trans hb5)) ?_
        refine zp_load (pc := 58) hx hb (zd_X12_image (58, .iload_n 1, 1, 0, []) (List.mem_of_getElem? (i := 34) rfl)) rfl (j := 2) rfl ?_
        refine zp_const (pc := 59) hx hb (zd_X12_image (59, .iconst 1, 1, 0, []) (List.mem_of_getElem? (i := 35) rfl)) rfl rfl ?_
        refine zp_zast (j := 1) (pc := 60) hx hb hw heff (zd_X12_image (60, .bastore, 1, 0, []) (List.mem_of_getElem? (i := 36) rfl)) (show zp_ia 4 61 = some (2, 0, 0, 0, 1) from rfl) hq5 (by omega) (by omega) (zp_o0 (by omega) (by omega) (by omega) (by omega)) (by omega) rfl ?_
        refine zp_load (pc := 61) hx hb (zd_X12_image (61, .aload_n 0, 1, 0, []) (List.mem_of_getElem? (i := 37) rfl)) rfl (j := 1) rfl ?_
        refine zp_const (pc := 62) hx hb (zd_X12_image (62, .iconst 0, 1, 0, []) (List.mem_of_getElem? (i := 38) rfl)) rfl rfl ?_
        refine zp_call (pc := 63) (how := 0) (idx := 170) (mi := 183) (S := []) hx hb hE hw heff hrm (zX_te13 hW) rfl (j := 0) rfl rfl (by decide +kernel) (zd_X12_image (63, .invokevirtual 170, 3, 0, []) (List.mem_of_getElem? (i := 39) rfl)) [(a : Int), 0] rfl ⟨zp_o2 hp, zp_o0 (by omega) (by omega) (by omega) (by omega), trivial⟩ (Nat.le_of_ble_eq_true rfl) trivial (fun al hal rnt Pt Gt hextt hfrt hokt hcst hpsit => ?_)
        obtain rfl := List.mem_singleton.mp hal
        have hrt := zp_int (hokt _ rfl).1
        obtain ⟨rfl, hrnt⟩ := hpsit
        have hrnt : rnt = 0 := hrnt
        refine zp_iret (pc := 66) (n := rnt) hx hb hE hQ hU5 rfl (by decide) (zd_X12_image (66, .ireturn, 1, 0, []) (List.mem_of_getElem? (i := 40) rfl)) (j := 0) rfl (zp_o0 (by omega) (by omega) (by omega) (by omega)) ?_
        rw [hps]
        refine ⟨rfl, fun kp h5 j hj => ?_⟩
        have h5 : zp_n u.2.1 a 5 = (kp : Int) := h5
        obtain rfl : b5 = kp := by omega
        show ((j : Int) ≠ p1 → Gt b5 (2000 + j) = zp_n u.2.1 b5 (2000 + j)) ∧ ((j : Int) = p1 → Gt b5 (2000 + j) = 1)
        have e5 := zp_nc hfrt hq5 rfl (2000 + j)
        rw [e5]
        obtain rfl | rfl : j = 0 ∨ j = 1 := by omega
        · exact ⟨fun _ => (zp_set_ne (Or.inr (by decide))).trans (z5 _), fun h => absurd h (by rw [hp1]; decide)⟩
        · exact ⟨fun h => absurd (by rw [hp1]; rfl) h, fun _ => zp_set_eq rfl rfl⟩
      · refine zp_load (pc := 30) hx hb (zd_X12_image (30, .aload_n 0, 1, 0, []) (List.mem_of_getElem? (i := 18) rfl)) rfl (j := 1) rfl ?_
        refine zp_getf (n := (b4 : Int)) (pc := 31) hx hb hE hw (zd_X12_image (31, .getfield 16, 3, 0, []) (List.mem_of_getElem? (i := 19) rfl)) (j := 22) rfl rfl rfl hp ((za 4).trans ((zp_set_ne (Or.inr (by decide))).trans hb4)) ?_
        refine zp_const (pc := 34) hx hb (zd_X12_image (34, .sipush 5580, 3, 0, []) (List.mem_of_getElem? (i := 20) rfl)) rfl rfl ?_
        refine zp_load (pc := 37) hx hb (zd_X12_image (37, .iload_n 1, 1, 0, []) (List.mem_of_getElem? (i := 21) rfl)) rfl (j := 2) rfl ?_
        refine zp_mul (n := 5580) (pc := 38) hx hb (zd_X12_image (38, .imul, 1, 0, []) (List.mem_of_getElem? (i := 22) rfl)) (by omega) (zp_r0 (by omega) (by omega)) ?_
        refine zp_load (pc := 39) hx hb (zd_X12_image (39, .iload_n 2, 1, 0, []) (List.mem_of_getElem? (i := 23) rfl)) rfl (j := 0) rfl ?_
        refine zp_add (n := ((i : Int) + 5580)) (pc := 40) hx hb (zd_X12_image (40, .iadd, 1, 0, []) (List.mem_of_getElem? (i := 24) rfl)) (by omega) (zp_r0 (by omega) (by omega)) ?_
        refine zp_load (pc := 41) hx hb (zd_X12_image (41, .aload_n 0, 1, 0, []) (List.mem_of_getElem? (i := 25) rfl)) rfl (j := 1) rfl ?_
        refine zp_getf (n := (b3 : Int)) (pc := 42) hx hb hE hw (zd_X12_image (42, .getfield 13, 3, 0, []) (List.mem_of_getElem? (i := 26) rfl)) (j := 21) rfl rfl rfl hp ((za 3).trans ((zp_set_ne (Or.inr (by decide))).trans hb3)) ?_
        refine zp_load (pc := 45) hx hb (zd_X12_image (45, .iload_n 2, 1, 0, []) (List.mem_of_getElem? (i := 27) rfl)) rfl (j := 0) rfl ?_
        refine zp_ialdT (j := i) (v := (G b3 (2000 + i))) (pc := 46) hx hb hw (zd_X12_image (46, .iaload, 1, 0, []) (List.mem_of_getElem? (i := 28) rfl)) zl_T59 rfl (zl_kd i) hq3 rfl (show i < 5580 by omega) rfl (fun hrow => ?_)
        refine zp_iastT (j := (i + 5580)) (pc := 47) hx hb hw heff (zd_X12_image (47, .iastore, 1, 0, []) (List.mem_of_getElem? (i := 29) rfl)) (T := zl_T2) rfl rfl (zl_kd2 _) hq4 (by omega) (show (i + 5580) < 11160 by omega) (by omega) (by rw [zl_fj2 (i := i) (k := 1) (by omega) (by omega)]; exact hrow) (Or.inl (List.mem_singleton.mpr rfl)) rfl ?_
        refine zp_iinc (L' := [(2, 0, ((i : Int) + 1)), (0, 2, (a : Int)), (1, 0, 1)]) (n := ((i : Int) + 1)) (pc := 48) hx hb hnL (zd_X12_image (48, .iinc 2 1, 3, 0, []) (List.mem_of_getElem? (i := 30) rfl)) (j := 0) rfl (by omega) (zp_r0 (by omega) (by omega)) rfl rfl ?_
        refine zp_goto (tgt := 23) (pc := 51) hx hb (zd_X12_image (51, .goto (-28), 3, 0, []) (List.mem_of_getElem? (i := 31) rfl)) rfl ?_
        refine ih (i + 1) _ (by omega) (by omega) (fun k => (zp_set_ne (Or.inl (zp_pne hp hq4 (by decide)))).trans (za k)) (fun k => (zp_set_ne (Or.inl (zp_pne hq3 hq4 (by decide)))).trans (z3 k)) (fun k => (zp_set_ne (Or.inl (zp_pne hq5 hq4 (by decide)))).trans (z5 k)) (fun j hj => (zp_set_ne (Or.inr (by omega))).trans (r0 j (by omega))) (fun j hj => ?_)
        by_cases hji : j = i
        · subst hji
          exact (zp_set_eq rfl (by omega)).trans (z3 _)
        · exact (zp_set_ne (Or.inr (by omega))).trans (r1 j (by omega))
  refine zp_load (pc := 0) hx hb (zd_X12_image (0, .aload_n 0, 1, 0, []) (List.mem_of_getElem? (i := 0) rfl)) rfl (j := 0) rfl ?_
  refine zp_const (pc := 1) hx hb (zd_X12_image (1, .iconst 0, 1, 0, []) (List.mem_of_getElem? (i := 1) rfl)) rfl rfl ?_
  refine zp_putf (pc := 2) hx hb hE hw heff (zd_X12_image (2, .putfield 161, 3, 0, []) (List.mem_of_getElem? (i := 2) rfl)) (j := 18) rfl rfl rfl hp (zp_o0 (by decide) (by decide) (by decide) (by decide)) ?_
  refine zp_load (pc := 5) hx hb (zd_X12_image (5, .iload_n 1, 1, 0, []) (List.mem_of_getElem? (i := 3) rfl)) rfl (j := 1) rfl ?_
  refine zp_i2l (pc := 6) hx hb (zd_X12_image (6, .i2l, 1, 0, []) (List.mem_of_getElem? (i := 4) rfl)) ?_
  refine zp_const (pc := 7) hx hb (zd_X12_image (7, .lconst 0, 1, 0, []) (List.mem_of_getElem? (i := 5) rfl)) rfl rfl ?_
  refine zp_const (pc := 8) hx hb (zd_X12_image (8, .lconst 1, 1, 0, []) (List.mem_of_getElem? (i := 6) rfl)) rfl rfl ?_
  refine zp_call (pc := 9) (how := 1) (idx := 181) (mi := 186) (S := []) hx hb hE hw heff hrm (zX_in2 hW) rfl (j := 2) rfl rfl (by decide +kernel) (zd_X12_image (9, .invokestatic 181, 3, 0, []) (List.mem_of_getElem? (i := 7) rfl)) [p1, 0, 1] rfl ⟨zp_o1 (zp_r1 (by omega) (by omega)), zp_o1 ⟨by decide, by decide⟩, zp_o1 ⟨by decide, by decide⟩, trivial⟩ (Nat.le_of_ble_eq_true rfl) trivial (fun al hal rni Pi Gi hexti hfri hoki hcsi hpsii => ?_)
  obtain rfl := List.mem_singleton.mp hal
  have hri := zp_int (hoki _ rfl).1
  obtain ⟨hPei, hGei, hti⟩ := hpsii
  rw [hPei, hGei]
  have hti : rni = 1 ↔ 0 ≤ p1 ∧ p1 ≤ 1 := hti
  refine zp_if (pc := 12) (tgt := 21) hx hb (zd_X12_image (12, .ifCond .ne 9, 3, 0, []) (List.mem_of_getElem? (i := 8) rfl)) rfl (fun (hc202 : ¬ rni = 0) => ?_) (fun (hc202 : ¬ (¬ rni = 0)) => ?_)
  · have hk01 : p1 = 0 ∨ p1 = 1 := by omega
    rcases hk01 with rfl | rfl
    · refine zp_const (pc := 21) hx hb (zd_X12_image (21, .iconst 0, 1, 0, []) (List.mem_of_getElem? (i := 13) rfl)) rfl rfl ?_
      refine zp_store (L' := [(2, 0, 0), (0, 2, (a : Int)), (1, 0, 0)]) (pc := 22) hx hb hnL (zd_X12_image (22, .istore_n 2, 1, 0, []) (List.mem_of_getElem? (i := 14) rfl)) rfl rfl rfl ?_
      refine zp_weak (xs := [b4]) ?_
      exact loop0 rfl 5581 0 _ (by omega) (by omega) (fun _ => rfl) (fun k => zp_set_ne (Or.inl (zp_pne hq3 hp (by decide)))) (fun k => zp_set_ne (Or.inl (zp_pne hq5 hp (by decide)))) (fun j _ => zp_set_ne (Or.inl (zp_pne hq4 hp (by decide)))) (fun j hj => absurd hj (Nat.not_lt_zero j))
    · refine zp_const (pc := 21) hx hb (zd_X12_image (21, .iconst 0, 1, 0, []) (List.mem_of_getElem? (i := 13) rfl)) rfl rfl ?_
      refine zp_store (L' := [(2, 0, 0), (0, 2, (a : Int)), (1, 0, 1)]) (pc := 22) hx hb hnL (zd_X12_image (22, .istore_n 2, 1, 0, []) (List.mem_of_getElem? (i := 14) rfl)) rfl rfl rfl ?_
      refine zp_weak (xs := [b4]) ?_
      exact loop1 rfl 5581 0 _ (by omega) (by omega) (fun _ => rfl) (fun k => zp_set_ne (Or.inl (zp_pne hq3 hp (by decide)))) (fun k => zp_set_ne (Or.inl (zp_pne hq5 hp (by decide)))) (fun j _ => zp_set_ne (Or.inl (zp_pne hq4 hp (by decide)))) (fun j hj => absurd hj (Nat.not_lt_zero j))
  · refine zp_load (pc := 15) hx hb (zd_X12_image (15, .aload_n 0, 1, 0, []) (List.mem_of_getElem? (i := 9) rfl)) rfl (j := 0) rfl ?_
    refine zp_const (pc := 16) hx hb (zd_X12_image (16, .iconst (-1), 1, 0, []) (List.mem_of_getElem? (i := 10) rfl)) rfl rfl ?_
    refine zp_call (pc := 17) (how := 0) (idx := 170) (mi := 183) (S := []) hx hb hE hw heff hrm (zX_te13 hW) rfl (j := 0) rfl rfl (by decide +kernel) (zd_X12_image (17, .invokevirtual 170, 3, 0, []) (List.mem_of_getElem? (i := 11) rfl)) [(a : Int), (-1)] rfl ⟨zp_o2 hp, zp_o0 (by omega) (by omega) (by omega) (by omega), trivial⟩ (Nat.le_of_ble_eq_true rfl) trivial (fun al hal rnt Pt Gt hextt hfrt hokt hcst hpsit => ?_)
    obtain rfl := List.mem_singleton.mp hal
    have hrt := zp_int (hokt _ rfl).1
    obtain ⟨rfl, hrnt⟩ := hpsit
    have hrnt : rnt = (-1) := hrnt
    refine zp_iret (pc := 20) (n := rnt) hx hb hE hQ hU5 rfl (by decide) (zd_X12_image (20, .ireturn, 1, 0, []) (List.mem_of_getElem? (i := 12) rfl)) (j := 0) rfl (zp_o0 (by omega) (by omega) (by omega) (by omega)) ?_
    rw [hps]
    refine ⟨rfl, fun kp h5 j hj => ?_⟩
    have h5 : zp_n u.2.1 a 5 = (kp : Int) := h5
    obtain rfl : b5 = kp := by omega
    show ((j : Int) ≠ p1 → Gt b5 (2000 + j) = zp_n u.2.1 b5 (2000 + j)) ∧ ((j : Int) = p1 → Gt b5 (2000 + j) = 1)
    have e5 := zp_nc hfrt hq5 rfl (2000 + j)
    exact ⟨fun _ => e5.trans (zp_set_ne (Or.inl (zp_pne hq5 hp (by decide)))), fun h => by exfalso; omega⟩
def zψ_bk4 : (Nat → Option Nat) → (Nat → Nat → Int) → List Int → (Nat → Option Nat) → (Nat → Nat → Int) → Int → Prop := fun P G ps P' G' rn => P' = P ∧ ∀ kp : Nat, G (zp_0 ps) 5 = (kp : Int) → (¬ (0 ≤ ps.getD 1 0 ∧ ps.getD 1 0 ≤ 1) → rn = -1) ∧ (0 ≤ ps.getD 1 0 → ps.getD 1 0 ≤ 1 → (G kp (2000 + (ps.getD 1 0).toNat) = 0 → rn = -2) ∧ (¬ G kp (2000 + (ps.getD 1 0).toNat) = 0 → rn = 0))
set_option maxRecDepth 40000 in
theorem zX_bk4 {l : Launch} {w : zk_W} (hW : zh_W w) : zk_metX l w zt_dv zt_TB zK_bk (zp_A zp_tA) (zp_B zψ_bk4) ∧ zk_cok w zt_TB zK_bk := by
  refine zp_meth hW (pl := 1576) rfl (by decide +kernel) (fun p e R s m args below meth c Q u hx hb hE hQ hU5 heff hnL hok hφ => ?_)
  have hw := hW.1
  obtain ⟨p0, p1, hps, k0, k1⟩ := zp_ps2 hok
  obtain ⟨a, rfl, hp⟩ := zp_this k0
  have hrm : zk_Kr (zk_ev (zp_E zK_bk)) = zk_Kr zK_bk := rfl
  rw [hps] at hφ ⊢
  have hi1 := zp_int k1
  show zp_J p l e R s m args below meth c Q w u [] 0 [(0, 2, (a : Int)), (1, 0, p1)] [] u.1 (zp_n u.2.1)
  refine zp_kn (k := 3) (a := a) hw (show zp_fd 13 3 = some (12, 2, 59, 0, 0) from rfl) rfl hp (fun hk3 => ?_)
  obtain ⟨b3, hb3, hq3⟩ := zp_this hk3
  refine zp_kn (k := 4) (a := a) hw (show zp_fd 13 4 = some (12, 2, 60, 0, 0) from rfl) rfl hp (fun hk4 => ?_)
  obtain ⟨b4, hb4, hq4⟩ := zp_this hk4
  refine zp_kn (k := 5) (a := a) hw (show zp_fd 13 5 = some (12, 2, 61, 0, 0) from rfl) rfl hp (fun hk5 => ?_)
  obtain ⟨b5, hb5, hq5⟩ := zp_this hk5
  refine zp_kx hw hq3 zl_T59 rfl (fun hkx => ?_)
  obtain ⟨f0, hf0, hxi⟩ := hkx
  have hlaws : zk_laws f0 0 := hxi.1 rfl
  have hf0 : ∀ j, j < 5580 → f0 j = zp_n u.2.1 b3 (2000 + j) := hf0
  refine zp_kaT hw hq3 zl_T59 rfl zl_kd (fun hka => ?_)
  have hka : ∀ j, j < 5580 → zk_ok u.1 (zk_fj zl_T j) (zp_n u.2.1 b3 (2000 + j)) := hka
  refine zp_kx hw hq4 (T := zl_T2) rfl rfl (fun hkx => ?_)
  obtain ⟨f1, hf1, hxi1⟩ := hkx
  have hl1 : zk_laws f1 0 ∧ zk_laws f1 5580 := hxi1.2 rfl
  have hf1 : ∀ j, j < 11160 → f1 j = zp_n u.2.1 b4 (2000 + j) := hf1
  refine zp_kaT hw hq4 (T := zl_T2) rfl rfl zl_kd2 (fun hkb => ?_)
  have hkb : ∀ j, j < 11160 → zk_ok u.1 (zk_fj zl_T2 j) (zp_n u.2.1 b4 (2000 + j)) := hkb
  have loop0 : p1 = 0 ∧ ¬ zp_n u.2.1 b5 (2000 + 0) = 0 → ∀ (n i : Nat) (G : Nat → Nat → Int), 5580 - i < n → i ≤ 5580 → (∀ k, G a k = zp_set (zp_n u.2.1) a 0 0 a k) → (∀ k, G b4 k = zp_n u.2.1 b4 k) → (∀ j, j < i → G b3 (2000 + j) = zp_n u.2.1 b4 (2000 + (0 + j))) → zp_J p l e R s m args below meth c Q w u [b3] 39 [(2, 0, (i : Int)), (0, 2, (a : Int)), (1, 0, 0)] [] u.1 G := by
    intro hp1 n
    induction n with
    | zero => intro i G h; exact absurd h (Nat.not_lt_zero _)
    | succ n ih =>
      intro i G hn hi za z4 r1
      refine zp_load (pc := 39) hx hb (zd_X12_back (39, .iload_n 2, 1, 0, []) (List.mem_of_getElem? (i := 24) rfl)) rfl (j := 0) rfl ?_
      refine zp_const (pc := 40) hx hb (zd_X12_back (40, .sipush 5580, 3, 0, []) (List.mem_of_getElem? (i := 25) rfl)) rfl rfl ?_
      refine zp_icmp (pc := 43) (tgt := 70) hx hb (zd_X12_back (43, .if_icmp .ge 27, 3, 0, []) (List.mem_of_getElem? (i := 26) rfl)) rfl (fun (hc203 : 5580 ≤ (i : Int)) => ?_) (fun (hc203 : ¬ (5580 ≤ (i : Int))) => ?_)
      · have hi9 : i = 5580 := by omega
        subst hi9
        refine zp_strong hw hq3 zl_T59 rfl (fun f hf => ⟨fun _ => ?_, fun z => absurd z (by decide)⟩) ?_
        · have hf : ∀ j, j < 5580 → f j = G b3 (2000 + j) := hf
          exact zl_cp hl1.1 (fun j hj => by rw [Nat.zero_add, hf _ hj, hf1 _ (by omega), r1 j hj, Nat.zero_add]) (fun _ _ _ => Or.inr trivial) (fun j hj => ⟨u.1, by rw [Nat.zero_add, hf1 j (by omega), ← zl_fj2 (i := j) (k := 0) hj (by omega : j = 5580 * 0 + j)]; exact hkb j (by omega)⟩)
        refine zp_load (pc := 70) hx hb (zd_X12_back (70, .aload_n 0, 1, 0, []) (List.mem_of_getElem? (i := 41) rfl)) rfl (j := 1) rfl ?_
        refine zp_const (pc := 71) hx hb (zd_X12_back (71, .iconst 0, 1, 0, []) (List.mem_of_getElem? (i := 42) rfl)) rfl rfl ?_
        refine zp_call (pc := 72) (how := 0) (idx := 185) (mi := 188) (S := []) hx hb hE hw heff hrm (zX_sd hW) rfl (j := 3) rfl rfl (by decide +kernel) (zd_X12_back (72, .invokevirtual 185, 3, 0, []) (List.mem_of_getElem? (i := 43) rfl)) [(a : Int), 0] rfl ⟨zp_o2 hp, zp_o0 (by decide) (by decide) (by decide) (by decide), trivial⟩ (Nat.le_of_ble_eq_true rfl) trivial (fun al hal rnt Pt Gt hextt hfrt hokt hcst hpsit => ?_)
        obtain rfl := List.mem_singleton.mp hal
        have hrt := zp_int (hokt _ rfl).1
        obtain ⟨rfl, hrnt⟩ := hpsit
        have hrnt : rnt = 0 := hrnt
        refine zp_iret (pc := 75) (n := rnt) hx hb hE hQ hU5 rfl (by decide) (zd_X12_back (75, .ireturn, 1, 0, []) (List.mem_of_getElem? (i := 44) rfl)) (j := 0) rfl (zp_o0 (by omega) (by omega) (by omega) (by omega)) ?_
        rw [hps]
        refine ⟨rfl, fun kp h5 => ?_⟩
        have h5 : zp_n u.2.1 a 5 = (kp : Int) := h5
        obtain rfl : b5 = kp := by omega
        show (¬ (0 ≤ p1 ∧ p1 ≤ 1) → rnt = -1) ∧ (0 ≤ p1 → p1 ≤ 1 → (zp_n u.2.1 b5 (2000 + (p1).toNat) = 0 → rnt = -2) ∧ (¬ zp_n u.2.1 b5 (2000 + (p1).toNat) = 0 → rnt = 0))
        rw [hp1.1]
        exact ⟨fun h => absurd ⟨by decide, by decide⟩ h, fun _ _ => ⟨fun h => absurd h hp1.2, fun _ => hrnt⟩⟩
      · refine zp_load (pc := 46) hx hb (zd_X12_back (46, .aload_n 0, 1, 0, []) (List.mem_of_getElem? (i := 27) rfl)) rfl (j := 1) rfl ?_
        refine zp_getf (n := (b3 : Int)) (pc := 47) hx hb hE hw (zd_X12_back (47, .getfield 13, 3, 0, []) (List.mem_of_getElem? (i := 28) rfl)) (j := 21) rfl rfl rfl hp ((za 3).trans ((zp_set_ne (Or.inr (by decide))).trans hb3)) ?_
        refine zp_load (pc := 50) hx hb (zd_X12_back (50, .iload_n 2, 1, 0, []) (List.mem_of_getElem? (i := 29) rfl)) rfl (j := 0) rfl ?_
        refine zp_load (pc := 51) hx hb (zd_X12_back (51, .aload_n 0, 1, 0, []) (List.mem_of_getElem? (i := 30) rfl)) rfl (j := 1) rfl ?_
        refine zp_getf (n := (b4 : Int)) (pc := 52) hx hb hE hw (zd_X12_back (52, .getfield 16, 3, 0, []) (List.mem_of_getElem? (i := 31) rfl)) (j := 22) rfl rfl rfl hp ((za 4).trans ((zp_set_ne (Or.inr (by decide))).trans hb4)) ?_
        refine zp_const (pc := 55) hx hb (zd_X12_back (55, .sipush 5580, 3, 0, []) (List.mem_of_getElem? (i := 32) rfl)) rfl rfl ?_
        refine zp_load (pc := 58) hx hb (zd_X12_back (58, .iload_n 1, 1, 0, []) (List.mem_of_getElem? (i := 33) rfl)) rfl (j := 2) rfl ?_
        refine zp_mul (n := 0) (pc := 59) hx hb (zd_X12_back (59, .imul, 1, 0, []) (List.mem_of_getElem? (i := 34) rfl)) (by omega) (zp_r0 (by omega) (by omega)) ?_
        refine zp_load (pc := 60) hx hb (zd_X12_back (60, .iload_n 2, 1, 0, []) (List.mem_of_getElem? (i := 35) rfl)) rfl (j := 0) rfl ?_
        refine zp_add (n := (i : Int)) (pc := 61) hx hb (zd_X12_back (61, .iadd, 1, 0, []) (List.mem_of_getElem? (i := 36) rfl)) (by omega) (zp_r0 (by omega) (by omega)) ?_
        refine zp_ialdT (j := i) (v := (G b4 (2000 + i))) (pc := 62) hx hb hw (zd_X12_back (62, .iaload, 1, 0, []) (List.mem_of_getElem? (i := 37) rfl)) (T := zl_T2) rfl rfl (zl_kd2 _) hq4 (by omega) (show i < 11160 by omega) rfl (fun hrow => ?_)
        rw [zl_fj2 (i := i) (k := 0) (by omega) (by omega)] at hrow
        refine zp_iastT (j := i) (pc := 63) hx hb hw heff (zd_X12_back (63, .iastore, 1, 0, []) (List.mem_of_getElem? (i := 38) rfl)) zl_T59 rfl (zl_kd _) hq3 (by omega) (show i < 5580 by omega) (by omega) hrow (Or.inl (List.mem_singleton.mpr rfl)) rfl ?_
        refine zp_iinc (L' := [(2, 0, ((i : Int) + 1)), (0, 2, (a : Int)), (1, 0, 0)]) (n := ((i : Int) + 1)) (pc := 64) hx hb hnL (zd_X12_back (64, .iinc 2 1, 3, 0, []) (List.mem_of_getElem? (i := 39) rfl)) (j := 0) rfl (by omega) (zp_r0 (by omega) (by omega)) rfl rfl ?_
        refine zp_goto (tgt := 39) (pc := 67) hx hb (zd_X12_back (67, .goto (-28), 3, 0, []) (List.mem_of_getElem? (i := 40) rfl)) rfl ?_
        refine ih (i + 1) _ (by omega) (by omega) (fun k => (zp_set_ne (Or.inl (zp_pne hp hq3 (by decide)))).trans (za k)) (fun k => (zp_set_ne (Or.inl (zp_pne hq4 hq3 (by decide)))).trans (z4 k)) (fun j hj => ?_)
        by_cases hji : j = i
        · subst hji
          exact (zp_set_eq rfl rfl).trans ((z4 _).trans (by rw [Nat.zero_add]))
        · exact (zp_set_ne (Or.inr (by omega))).trans (r1 j (by omega))
  have loop1 : p1 = 1 ∧ ¬ zp_n u.2.1 b5 (2000 + 1) = 0 → ∀ (n i : Nat) (G : Nat → Nat → Int), 5580 - i < n → i ≤ 5580 → (∀ k, G a k = zp_set (zp_n u.2.1) a 0 0 a k) → (∀ k, G b4 k = zp_n u.2.1 b4 k) → (∀ j, j < i → G b3 (2000 + j) = zp_n u.2.1 b4 (2000 + (5580 + j))) → zp_J p l e R s m args below meth c Q w u [b3] 39 [(2, 0, (i : Int)), (0, 2, (a : Int)), (1, 0, 1)] [] u.1 G := by
    intro hp1 n
    induction n with
    | zero => intro i G h; exact absurd h (Nat.not_lt_zero _)
    | succ n ih =>
      intro i G hn hi za z4 r1
      refine zp_load (pc := 39) hx hb (zd_X12_back (39, .iload_n 2, 1, 0, []) (List.mem_of_getElem? (i := 24) rfl)) rfl (j := 0) rfl ?_
      refine zp_const (pc := 40) hx hb (zd_X12_back (40, .sipush 5580, 3, 0, []) (List.mem_of_getElem? (i := 25) rfl)) rfl rfl ?_
      refine zp_icmp (pc := 43) (tgt := 70) hx hb (zd_X12_back (43, .if_icmp .ge 27, 3, 0, []) (List.mem_of_getElem? (i := 26) rfl)) rfl (fun (hc204 : 5580 ≤ (i : Int)) => ?_) (fun (hc204 : ¬ (5580 ≤ (i : Int))) => ?_)
      · have hi9 : i = 5580 := by omega
        subst hi9
        refine zp_strong hw hq3 zl_T59 rfl (fun f hf => ⟨fun _ => ?_, fun z => absurd z (by decide)⟩) ?_
        · have hf : ∀ j, j < 5580 → f j = G b3 (2000 + j) := hf
          exact zl_cp hl1.2 (fun j hj => by rw [Nat.zero_add, hf _ hj, hf1 _ (by omega), r1 j hj]) (fun _ _ _ => Or.inr trivial) (fun j hj => ⟨u.1, by rw [hf1 _ (by omega), ← zl_fj2 (i := j) (k := 1) hj (by omega : 5580 + j = 5580 * 1 + j)]; exact hkb _ (by omega)⟩)
        refine zp_load (pc := 70) hx hb (zd_X12_back (70, .aload_n 0, 1, 0, []) (List.mem_of_getElem? (i := 41) rfl)) rfl (j := 1) rfl ?_
        refine zp_const (pc := 71) hx hb (zd_X12_back (71, .iconst 0, 1, 0, []) (List.mem_of_getElem? (i := 42) rfl)) rfl rfl ?_
        refine zp_call (pc := 72) (how := 0) (idx := 185) (mi := 188) (S := []) hx hb hE hw heff hrm (zX_sd hW) rfl (j := 3) rfl rfl (by decide +kernel) (zd_X12_back (72, .invokevirtual 185, 3, 0, []) (List.mem_of_getElem? (i := 43) rfl)) [(a : Int), 0] rfl ⟨zp_o2 hp, zp_o0 (by decide) (by decide) (by decide) (by decide), trivial⟩ (Nat.le_of_ble_eq_true rfl) trivial (fun al hal rnt Pt Gt hextt hfrt hokt hcst hpsit => ?_)
        obtain rfl := List.mem_singleton.mp hal
        have hrt := zp_int (hokt _ rfl).1
        obtain ⟨rfl, hrnt⟩ := hpsit
        have hrnt : rnt = 0 := hrnt
        refine zp_iret (pc := 75) (n := rnt) hx hb hE hQ hU5 rfl (by decide) (zd_X12_back (75, .ireturn, 1, 0, []) (List.mem_of_getElem? (i := 44) rfl)) (j := 0) rfl (zp_o0 (by omega) (by omega) (by omega) (by omega)) ?_
        rw [hps]
        refine ⟨rfl, fun kp h5 => ?_⟩
        have h5 : zp_n u.2.1 a 5 = (kp : Int) := h5
        obtain rfl : b5 = kp := by omega
        show (¬ (0 ≤ p1 ∧ p1 ≤ 1) → rnt = -1) ∧ (0 ≤ p1 → p1 ≤ 1 → (zp_n u.2.1 b5 (2000 + (p1).toNat) = 0 → rnt = -2) ∧ (¬ zp_n u.2.1 b5 (2000 + (p1).toNat) = 0 → rnt = 0))
        rw [hp1.1]
        exact ⟨fun h => absurd ⟨by decide, by decide⟩ h, fun _ _ => ⟨fun h => absurd h hp1.2, fun _ => hrnt⟩⟩
      · refine zp_load (pc := 46) hx hb (zd_X12_back (46, .aload_n 0, 1, 0, []) (List.mem_of_getElem? (i := 27) rfl)) rfl (j := 1) rfl ?_
        refine zp_getf (n := (b3 : Int)) (pc := 47) hx hb hE hw (zd_X12_back (47, .getfield 13, 3, 0, []) (List.mem_of_getElem? (i := 28) rfl)) (j := 21) rfl rfl rfl hp ((za 3).trans ((zp_set_ne (Or.inr (by decide))).trans hb3)) ?_
        refine zp_load (pc := 50) hx hb (zd_X12_back (50, .iload_n 2, 1, 0, []) (List.mem_of_getElem? (i := 29) rfl)) rfl (j := 0) rfl ?_
        refine zp_load (pc := 51) hx hb (zd_X12_back (51, .aload_n 0, 1, 0, []) (List.mem_of_getElem? (i := 30) rfl)) rfl (j := 1) rfl ?_
        refine zp_getf (n := (b4 : Int)) (pc := 52) hx hb hE hw (zd_X12_back (52, .getfield 16, 3, 0, []) (List.mem_of_getElem? (i := 31) rfl)) (j := 22) rfl rfl rfl hp ((za 4).trans ((zp_set_ne (Or.inr (by decide))).trans hb4)) ?_
        refine zp_const (pc := 55) hx hb (zd_X12_back (55, .sipush 5580, 3, 0, []) (List.mem_of_getElem? (i := 32) rfl)) rfl rfl ?_
        refine zp_load (pc := 58) hx hb (zd_X12_back (58, .iload_n 1, 1, 0, []) (List.mem_of_getElem? (i := 33) rfl)) rfl (j := 2) rfl ?_
        refine zp_mul (n := 5580) (pc := 59) hx hb (zd_X12_back (59, .imul, 1, 0, []) (List.mem_of_getElem? (i := 34) rfl)) (by omega) (zp_r0 (by omega) (by omega)) ?_
        refine zp_load (pc := 60) hx hb (zd_X12_back (60, .iload_n 2, 1, 0, []) (List.mem_of_getElem? (i := 35) rfl)) rfl (j := 0) rfl ?_
        refine zp_add (n := ((i : Int) + 5580)) (pc := 61) hx hb (zd_X12_back (61, .iadd, 1, 0, []) (List.mem_of_getElem? (i := 36) rfl)) (by omega) (zp_r0 (by omega) (by omega)) ?_
        refine zp_ialdT (j := (i + 5580)) (v := (G b4 (2000 + (i + 5580)))) (pc := 62) hx hb hw (zd_X12_back (62, .iaload, 1, 0, []) (List.mem_of_getElem? (i := 37) rfl)) (T := zl_T2) rfl rfl (zl_kd2 _) hq4 (by omega) (show (i + 5580) < 11160 by omega) rfl (fun hrow => ?_)
        rw [zl_fj2 (i := i) (k := 1) (by omega) (by omega)] at hrow
        refine zp_iastT (j := i) (pc := 63) hx hb hw heff (zd_X12_back (63, .iastore, 1, 0, []) (List.mem_of_getElem? (i := 38) rfl)) zl_T59 rfl (zl_kd _) hq3 (by omega) (show i < 5580 by omega) (by omega) hrow (Or.inl (List.mem_singleton.mpr rfl)) rfl ?_
        refine zp_iinc (L' := [(2, 0, ((i : Int) + 1)), (0, 2, (a : Int)), (1, 0, 1)]) (n := ((i : Int) + 1)) (pc := 64) hx hb hnL (zd_X12_back (64, .iinc 2 1, 3, 0, []) (List.mem_of_getElem? (i := 39) rfl)) (j := 0) rfl (by omega) (zp_r0 (by omega) (by omega)) rfl rfl ?_
        refine zp_goto (tgt := 39) (pc := 67) hx hb (zd_X12_back (67, .goto (-28), 3, 0, []) (List.mem_of_getElem? (i := 40) rfl)) rfl ?_
        refine ih (i + 1) _ (by omega) (by omega) (fun k => (zp_set_ne (Or.inl (zp_pne hp hq3 (by decide)))).trans (za k)) (fun k => (zp_set_ne (Or.inl (zp_pne hq4 hq3 (by decide)))).trans (z4 k)) (fun j hj => ?_)
        by_cases hji : j = i
        · subst hji
          exact (zp_set_eq rfl rfl).trans ((z4 _).trans (by rw [Nat.add_comm j 5580]))
        · exact (zp_set_ne (Or.inr (by omega))).trans (r1 j (by omega))
  refine zp_load (pc := 0) hx hb (zd_X12_back (0, .aload_n 0, 1, 0, []) (List.mem_of_getElem? (i := 0) rfl)) rfl (j := 0) rfl ?_
  refine zp_const (pc := 1) hx hb (zd_X12_back (1, .iconst 0, 1, 0, []) (List.mem_of_getElem? (i := 1) rfl)) rfl rfl ?_
  refine zp_putf (pc := 2) hx hb hE hw heff (zd_X12_back (2, .putfield 161, 3, 0, []) (List.mem_of_getElem? (i := 2) rfl)) (j := 18) rfl rfl rfl hp (zp_o0 (by decide) (by decide) (by decide) (by decide)) ?_
  refine zp_load (pc := 5) hx hb (zd_X12_back (5, .iload_n 1, 1, 0, []) (List.mem_of_getElem? (i := 3) rfl)) rfl (j := 1) rfl ?_
  refine zp_i2l (pc := 6) hx hb (zd_X12_back (6, .i2l, 1, 0, []) (List.mem_of_getElem? (i := 4) rfl)) ?_
  refine zp_const (pc := 7) hx hb (zd_X12_back (7, .lconst 0, 1, 0, []) (List.mem_of_getElem? (i := 5) rfl)) rfl rfl ?_
  refine zp_const (pc := 8) hx hb (zd_X12_back (8, .lconst 1, 1, 0, []) (List.mem_of_getElem? (i := 6) rfl)) rfl rfl ?_
  refine zp_call (pc := 9) (how := 1) (idx := 181) (mi := 186) (S := []) hx hb hE hw heff hrm (zX_in2 hW) rfl (j := 2) rfl rfl (by decide +kernel) (zd_X12_back (9, .invokestatic 181, 3, 0, []) (List.mem_of_getElem? (i := 7) rfl)) [p1, 0, 1] rfl ⟨zp_o1 (zp_r1 (by omega) (by omega)), zp_o1 ⟨by decide, by decide⟩, zp_o1 ⟨by decide, by decide⟩, trivial⟩ (Nat.le_of_ble_eq_true rfl) trivial (fun al hal rni Pi Gi hexti hfri hoki hcsi hpsii => ?_)
  obtain rfl := List.mem_singleton.mp hal
  have hri := zp_int (hoki _ rfl).1
  obtain ⟨hPei, hGei, hti⟩ := hpsii
  rw [hPei, hGei]
  have hti : rni = 1 ↔ 0 ≤ p1 ∧ p1 ≤ 1 := hti
  refine zp_if (pc := 12) (tgt := 21) hx hb (zd_X12_back (12, .ifCond .ne 9, 3, 0, []) (List.mem_of_getElem? (i := 8) rfl)) rfl (fun (hc205 : ¬ rni = 0) => ?_) (fun (hc205 : ¬ (¬ rni = 0)) => ?_)
  · have hk01 : p1 = 0 ∨ p1 = 1 := by omega
    rcases hk01 with rfl | rfl
    · refine zp_load (pc := 21) hx hb (zd_X12_back (21, .aload_n 0, 1, 0, []) (List.mem_of_getElem? (i := 13) rfl)) rfl (j := 0) rfl ?_
      refine zp_getf (n := (b5 : Int)) (pc := 22) hx hb hE hw (zd_X12_back (22, .getfield 19, 3, 0, []) (List.mem_of_getElem? (i := 14) rfl)) (j := 23) rfl rfl rfl hp ((zp_set_ne (Or.inr (by decide))).trans (hb5)) ?_
      refine zp_load (pc := 25) hx hb (zd_X12_back (25, .iload_n 1, 1, 0, []) (List.mem_of_getElem? (i := 15) rfl)) rfl (j := 1) rfl ?_
      refine zp_zald (j := 0) (v := ((zp_n u.2.1) b5 (2000 + 0))) (pc := 26) hx hb hw (zd_X12_back (26, .baload, 1, 0, []) (List.mem_of_getElem? (i := 16) rfl)) (show zp_ia 4 61 = some (2, 0, 0, 0, 1) from rfl) hq5 (by omega) (by omega) ((zp_set_ne (Or.inl (zp_pne hq5 hp (by decide))))) (fun hk206 => ?_)
      have hk206b := zp_int hk206
      refine zp_if (pc := 27) (tgt := 37) hx hb (zd_X12_back (27, .ifCond .ne 10, 3, 0, []) (List.mem_of_getElem? (i := 17) rfl)) rfl (fun (hc207 : ¬ ((zp_n u.2.1) b5 (2000 + 0)) = 0) => ?_) (fun (hc207 : ¬ (¬ ((zp_n u.2.1) b5 (2000 + 0)) = 0)) => ?_)
      · refine zp_const (pc := 37) hx hb (zd_X12_back (37, .iconst 0, 1, 0, []) (List.mem_of_getElem? (i := 22) rfl)) rfl rfl ?_
        refine zp_store (L' := [(2, 0, 0), (0, 2, (a : Int)), (1, 0, 0)]) (pc := 38) hx hb hnL (zd_X12_back (38, .istore_n 2, 1, 0, []) (List.mem_of_getElem? (i := 23) rfl)) rfl rfl rfl ?_
        refine zp_weak (xs := [b3]) ?_
        exact loop0 ⟨rfl, hc207⟩ 5581 0 _ (by omega) (by omega) (fun _ => rfl) (fun k => zp_set_ne (Or.inl (zp_pne hq4 hp (by decide)))) (fun j hj => absurd hj (Nat.not_lt_zero j))
      · refine zp_load (pc := 30) hx hb (zd_X12_back (30, .aload_n 0, 1, 0, []) (List.mem_of_getElem? (i := 18) rfl)) rfl (j := 0) rfl ?_
        refine zp_const (pc := 31) hx hb (zd_X12_back (31, .bipush (-2), 2, 0, []) (List.mem_of_getElem? (i := 19) rfl)) rfl rfl ?_
        refine zp_call (pc := 33) (how := 0) (idx := 170) (mi := 183) (S := []) hx hb hE hw heff hrm (zX_te13 hW) rfl (j := 0) rfl rfl (by decide +kernel) (zd_X12_back (33, .invokevirtual 170, 3, 0, []) (List.mem_of_getElem? (i := 20) rfl)) [(a : Int), (-2)] rfl ⟨zp_o2 hp, zp_o0 (by omega) (by omega) (by omega) (by omega), trivial⟩ (Nat.le_of_ble_eq_true rfl) trivial (fun al hal rnt Pt Gt hextt hfrt hokt hcst hpsit => ?_)
        obtain rfl := List.mem_singleton.mp hal
        have hrt := zp_int (hokt _ rfl).1
        obtain ⟨rfl, hrnt⟩ := hpsit
        have hrnt : rnt = (-2) := hrnt
        refine zp_iret (pc := 36) (n := rnt) hx hb hE hQ hU5 rfl (by decide) (zd_X12_back (36, .ireturn, 1, 0, []) (List.mem_of_getElem? (i := 21) rfl)) (j := 0) rfl (zp_o0 (by omega) (by omega) (by omega) (by omega)) ?_
        rw [hps]
        refine ⟨rfl, fun kp h5 => ?_⟩
        have h5 : zp_n u.2.1 a 5 = (kp : Int) := h5
        obtain rfl : b5 = kp := by omega
        show (¬ (0 ≤ (0 : Int) ∧ (0 : Int) ≤ 1) → rnt = -1) ∧ (0 ≤ (0 : Int) → (0 : Int) ≤ 1 → (zp_n u.2.1 b5 (2000 + ((0 : Int)).toNat) = 0 → rnt = -2) ∧ (¬ zp_n u.2.1 b5 (2000 + ((0 : Int)).toNat) = 0 → rnt = 0))
        exact ⟨fun h => absurd ⟨by decide, by decide⟩ h, fun _ _ => ⟨fun _ => hrnt, fun h => absurd h hc207⟩⟩
    · refine zp_load (pc := 21) hx hb (zd_X12_back (21, .aload_n 0, 1, 0, []) (List.mem_of_getElem? (i := 13) rfl)) rfl (j := 0) rfl ?_
      refine zp_getf (n := (b5 : Int)) (pc := 22) hx hb hE hw (zd_X12_back (22, .getfield 19, 3, 0, []) (List.mem_of_getElem? (i := 14) rfl)) (j := 23) rfl rfl rfl hp ((zp_set_ne (Or.inr (by decide))).trans (hb5)) ?_
      refine zp_load (pc := 25) hx hb (zd_X12_back (25, .iload_n 1, 1, 0, []) (List.mem_of_getElem? (i := 15) rfl)) rfl (j := 1) rfl ?_
      refine zp_zald (j := 1) (v := ((zp_n u.2.1) b5 (2000 + 1))) (pc := 26) hx hb hw (zd_X12_back (26, .baload, 1, 0, []) (List.mem_of_getElem? (i := 16) rfl)) (show zp_ia 4 61 = some (2, 0, 0, 0, 1) from rfl) hq5 (by omega) (by omega) ((zp_set_ne (Or.inl (zp_pne hq5 hp (by decide))))) (fun hk208 => ?_)
      have hk208b := zp_int hk208
      refine zp_if (pc := 27) (tgt := 37) hx hb (zd_X12_back (27, .ifCond .ne 10, 3, 0, []) (List.mem_of_getElem? (i := 17) rfl)) rfl (fun (hc209 : ¬ ((zp_n u.2.1) b5 (2000 + 1)) = 0) => ?_) (fun (hc209 : ¬ (¬ ((zp_n u.2.1) b5 (2000 + 1)) = 0)) => ?_)
      · refine zp_const (pc := 37) hx hb (zd_X12_back (37, .iconst 0, 1, 0, []) (List.mem_of_getElem? (i := 22) rfl)) rfl rfl ?_
        refine zp_store (L' := [(2, 0, 0), (0, 2, (a : Int)), (1, 0, 1)]) (pc := 38) hx hb hnL (zd_X12_back (38, .istore_n 2, 1, 0, []) (List.mem_of_getElem? (i := 23) rfl)) rfl rfl rfl ?_
        refine zp_weak (xs := [b3]) ?_
        exact loop1 ⟨rfl, hc209⟩ 5581 0 _ (by omega) (by omega) (fun _ => rfl) (fun k => zp_set_ne (Or.inl (zp_pne hq4 hp (by decide)))) (fun j hj => absurd hj (Nat.not_lt_zero j))
      · refine zp_load (pc := 30) hx hb (zd_X12_back (30, .aload_n 0, 1, 0, []) (List.mem_of_getElem? (i := 18) rfl)) rfl (j := 0) rfl ?_
        refine zp_const (pc := 31) hx hb (zd_X12_back (31, .bipush (-2), 2, 0, []) (List.mem_of_getElem? (i := 19) rfl)) rfl rfl ?_
        refine zp_call (pc := 33) (how := 0) (idx := 170) (mi := 183) (S := []) hx hb hE hw heff hrm (zX_te13 hW) rfl (j := 0) rfl rfl (by decide +kernel) (zd_X12_back (33, .invokevirtual 170, 3, 0, []) (List.mem_of_getElem? (i := 20) rfl)) [(a : Int), (-2)] rfl ⟨zp_o2 hp, zp_o0 (by omega) (by omega) (by omega) (by omega), trivial⟩ (Nat.le_of_ble_eq_true rfl) trivial (fun al hal rnt Pt Gt hextt hfrt hokt hcst hpsit => ?_)
        obtain rfl := List.mem_singleton.mp hal
        have hrt := zp_int (hokt _ rfl).1
        obtain ⟨rfl, hrnt⟩ := hpsit
        have hrnt : rnt = (-2) := hrnt
        refine zp_iret (pc := 36) (n := rnt) hx hb hE hQ hU5 rfl (by decide) (zd_X12_back (36, .ireturn, 1, 0, []) (List.mem_of_getElem? (i := 21) rfl)) (j := 0) rfl (zp_o0 (by omega) (by omega) (by omega) (by omega)) ?_
        rw [hps]
        refine ⟨rfl, fun kp h5 => ?_⟩
        have h5 : zp_n u.2.1 a 5 = (kp : Int) := h5
        obtain rfl : b5 = kp := by omega
        show (¬ (0 ≤ (1 : Int) ∧ (1 : Int) ≤ 1) → rnt = -1) ∧ (0 ≤ (1 : Int) → (1 : Int) ≤ 1 → (zp_n u.2.1 b5 (2000 + ((1 : Int)).toNat) = 0 → rnt = -2) ∧ (¬ zp_n u.2.1 b5 (2000 + ((1 : Int)).toNat) = 0 → rnt = 0))
        exact ⟨fun h => absurd ⟨by decide, by decide⟩ h, fun _ _ => ⟨fun _ => hrnt, fun h => absurd h hc209⟩⟩
  · refine zp_load (pc := 15) hx hb (zd_X12_back (15, .aload_n 0, 1, 0, []) (List.mem_of_getElem? (i := 9) rfl)) rfl (j := 0) rfl ?_
    refine zp_const (pc := 16) hx hb (zd_X12_back (16, .iconst (-1), 1, 0, []) (List.mem_of_getElem? (i := 10) rfl)) rfl rfl ?_
    refine zp_call (pc := 17) (how := 0) (idx := 170) (mi := 183) (S := []) hx hb hE hw heff hrm (zX_te13 hW) rfl (j := 0) rfl rfl (by decide +kernel) (zd_X12_back (17, .invokevirtual 170, 3, 0, []) (List.mem_of_getElem? (i := 11) rfl)) [(a : Int), (-1)] rfl ⟨zp_o2 hp, zp_o0 (by omega) (by omega) (by omega) (by omega), trivial⟩ (Nat.le_of_ble_eq_true rfl) trivial (fun al hal rnt Pt Gt hextt hfrt hokt hcst hpsit => ?_)
    obtain rfl := List.mem_singleton.mp hal
    have hrt := zp_int (hokt _ rfl).1
    obtain ⟨rfl, hrnt⟩ := hpsit
    have hrnt : rnt = (-1) := hrnt
    refine zp_iret (pc := 20) (n := rnt) hx hb hE hQ hU5 rfl (by decide) (zd_X12_back (20, .ireturn, 1, 0, []) (List.mem_of_getElem? (i := 12) rfl)) (j := 0) rfl (zp_o0 (by omega) (by omega) (by omega) (by omega)) ?_
    rw [hps]
    refine ⟨rfl, fun kp h5 => ?_⟩
    have h5 : zp_n u.2.1 a 5 = (kp : Int) := h5
    obtain rfl : b5 = kp := by omega
    show (¬ (0 ≤ p1 ∧ p1 ≤ 1) → rnt = -1) ∧ (0 ≤ p1 → p1 ≤ 1 → (zp_n u.2.1 b5 (2000 + (p1).toNat) = 0 → rnt = -2) ∧ (¬ zp_n u.2.1 b5 (2000 + (p1).toNat) = 0 → rnt = 0))
    exact ⟨fun _ => hrnt, fun q0 q1 => absurd (hti.mpr ⟨q0, q1⟩) (by omega)⟩
