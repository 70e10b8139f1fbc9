/-! part 8aw: image, with the roads that it copies -/
def zK_iw3 : zk_K := (zt_mn 15, prog_1_method_55_code, 3, (Option.some Jvm.ClassFile.FieldType.boolean), 0, 11, [(0, 0, (-2147483648), 2147483647), (0, 0, (-2147483648), 2147483647), (0, 0, (-2147483648), 2147483647)], [(some (0, 0, 0, 0), [(0, 1, (-1))]), (some (0, 0, 0, 0), [(2, 0, (-1))]), (some (0, 0, 1, 1), [(0, 2, 0), (1, 0, 0)])], [], (0, 0, 0, 0))
theorem zq_iw3 {l : Launch} {w : zk_W} (hW : zh_W w) : zh_K l w zK_iw3 := zh_meth hW (lk := []) (KS := []) (km := []) (lc := []) (CL0 := zc_X11_isWithin) (ns := []) (AN := []) (fuel := 90) (pl := 607) (by decide +kernel) (by decide +kernel) zd_X11_isWithin (fun K h => nomatch h)
def zK_im5 : zk_K := (zt_mn 176, prog_1_method_47_code, 3, (Option.some Jvm.ClassFile.FieldType.int), 1, 11, [(2, 12, 0, 0), (0, 0, (-2147483648), 2147483647)], [(some (0, 0, (-1), 0), [])], [(12, 18, 0), (57, 1002, 0), (103, 1001, 0), (93, 1, 0), (43, 1001, 0), (93, 3, 0), (44, 1001, 0), (45, 1001, 0), (46, 1001, 0), (47, 1001, 0), (48, 1001, 0), (93, 9, 0), (49, 1001, 0), (50, 1001, 0), (51, 1001, 0), (52, 1001, 0), (93, 14, 0), (93, 15, 0), (93, 16, 0), (93, 17, 0), (17, 1001, 0), (18, 1001, 0), (19, 1001, 0), (2, 3, 0), (2, 4, 0), (2, 5, 0), (2, 6, 0), (55, 1001, 0)], (3, 103, 16, 198))
def zE_1 : List (Nat × Nat × Nat) := [(12, 18, 0), (57, 1002, 0)]
def zE_54 : List (Nat × Nat × Nat) := [(12, 18, 0)]
def zE_46 : List (Nat × Nat × Nat) := [(103, 1001, 0), (93, 1, 3), (43, 1001, 0), (93, 3, 3), (44, 1001, 0), (45, 1001, 0), (46, 1001, 0), (47, 1001, 0), (48, 1001, 0), (93, 9, 3), (49, 1001, 0), (50, 1001, 0), (51, 1001, 0), (52, 1001, 0), (93, 14, 3), (93, 15, 3), (93, 16, 3), (93, 17, 3), (17, 1001, 0), (18, 1001, 0), (19, 1001, 0), (2, 3, 0), (2, 4, 0), (2, 5, 0), (2, 6, 0)]
def zM_14a : zk_An := (14, ([(0, 0, 0, 0), (1, 0, 0, 0), (2, 0, (-1), (-1)), (2, 12, 0, 0), (0, 0, (-2147483648), 2147483647), (0, 0, (-1), (-1))], [(4, 0, (-1))], [], [], [], [(0, 3), (1, 4)], []), [(5, 0)], 0, 0, ((-1), []))
def zM_14b : zk_An := (14, ([(0, 0, 0, 0), (1, 0, 0, 0), (2, 0, (-1), (-1)), (2, 12, 0, 0), (0, 0, (-2147483648), 2147483647), (0, 0, (-1), (-1))], [(0, 4, (-2))], [], [], [], [(0, 3), (1, 4)], []), [(5, 0)], 0, 0, ((-1), []))
def zM_20 : zk_An := (20, ([(0, 0, 0, 0), (1, 0, 0, 0), (2, 0, (-1), (-1)), (2, 12, 0, 0), (0, 0, 0, 1), (2, 55, 0, 0)], [], [(3, 1, (5, 0))], [], [(0, (3, 0)), (1, (4, 0))], [(0, 3), (1, 4)], []), [(4, 0), (5, 0)], 0, 0, ((-1), []))
def zM_40 : zk_An := (40, ([(0, 0, 0, 0), (1, 0, 0, 0), (2, 0, (-1), (-1)), (2, 12, 0, 0), (0, 0, 0, 1), (2, 55, 0, 0), (2, 104, 0, 0)], [], [(3, 1, (5, 0))], [], [(0, (3, 0)), (1, (4, 0)), (2, (6, 0))], [(0, 3), (1, 4)], [6]), [(6, 0), (4, 0), (5, 0)], 16, 198, ((-1), []))
def zM_46 : zk_An := (46, ([(0, 0, 0, 0), (1, 0, 0, 0), (2, 0, (-1), (-1)), (2, 12, 0, 0), (2, 93, 0, 0), (2, 10, 0, 0)], [], [(3, 0, (5, 0))], [], [(0, (3, 0))], [(0, 3), (2, 4)], []), [(5, 0), (4, 0)], 16, 198, ((-1), []))
def zM_54 : zk_An := (54, ([(0, 0, 0, 0), (1, 0, 0, 0), (2, 0, (-1), (-1)), (2, 12, 0, 0), (0, 0, 0, 0)], [], [], [], [], [(0, 3)], []), [(4, 0)], 16, 198, ((-1), []))
def zI_Ev : zk_Ev := (zt_types, [(2, 16, 11, 1, 18), (3, 7, 9, 19, 0), (2, 10, 11, 0, 18)], zt_dv, [zK_iw3, zK_13, zK_3201, zK_3203, zK_14], [15, 16, 1, 177, 17], [(1, 107, 15), (0, 111, 16), (2, 9, 1), (0, 434, 177), (0, 118, 17)], zK_im5)
def zI_o46 : List zk_O := (zk_s7 zt_types zt_dv [zK_3203] [177] [(1, 107, 15), (0, 111, 16), (2, 9, 1), (0, 434, 177), (0, 118, 17)] zE_46 (zk_Kr zK_im5) 0 (.invokevirtual 434) 3 46 zM_46.2.1 zM_46.2.2.1 16 198).getD []
theorem zI_o46e : zk_s7 zt_types zt_dv [zK_3203] [177] [(1, 107, 15), (0, 111, 16), (2, 9, 1), (0, 434, 177), (0, 118, 17)] zE_46 (zk_Kr zK_im5) 0 (.invokevirtual 434) 3 46 zM_46.2.1 zM_46.2.2.1 16 198 = some zI_o46 := by
  have h : (zk_s7 zt_types zt_dv [zK_3203] [177] [(1, 107, 15), (0, 111, 16), (2, 9, 1), (0, 434, 177), (0, 118, 17)] zE_46 (zk_Kr zK_im5) 0 (.invokevirtual 434) 3 46 zM_46.2.1 zM_46.2.2.1 16 198).isSome = true := by decide +kernel
  unfold zI_o46
  revert h
  cases zk_s7 zt_types zt_dv [zK_3203] [177] [(1, 107, 15), (0, 111, 16), (2, 9, 1), (0, 434, 177), (0, 118, 17)] zE_46 (zk_Kr zK_im5) 0 (.invokevirtual 434) 3 46 zM_46.2.1 zM_46.2.2.1 16 198 with
  | none => intro h; cases h
  | some x => intro _; rfl
/-- no cells of types that are for a while alone -/
def zA_im : zk_Q := fun P _ _ => ∀ a t, P a = some t → zl_mt t = t
/-- the images' roads behind image -/
def zB_im7 : zk_B := fun P G ps P' G' _ => ∀ im tn rd : Nat, zp_n G (zp_0 ps) 1 = (im : Int) → P im = some 55 → zp_n G (zp_0 ps) 0 = (tn : Int) → P tn = some 10 → zp_n G tn 0 = (rd : Int) → P rd = some 42 → (¬ (0 ≤ ps.getD 1 0 ∧ ps.getD 1 0 ≤ 1) → (∀ j, j < 2 → zp_n G' im (2000 + j) = zp_n G im (2000 + j)) ∧ (∀ x, P x = some 93 → zp_n G' x 0 = zp_n G x 0) ∧ ∀ b, P b = some 103 → ∀ k, zp_n G' b k = zp_n G b k) ∧ (∀ q : Nat, q < 2 → ps.getD 1 0 = (q : Int) → ∃ z rz : Nat, zp_n G' im (2000 + q) = (z : Int) ∧ P' z = some 93 ∧ zp_n G' z 0 = (rz : Int) ∧ P' rz = some 103 ∧ (0 ≤ zp_n G im (2000 + q) → zp_n G im (2000 + q) = (z : Int) ∧ zp_n G z 0 = (rz : Int)) ∧ (zp_n G im (2000 + q) < 0 → P z = none ∧ P rz = none) ∧ (∀ j, j < 2 → j ≠ q → zp_n G' im (2000 + j) = zp_n G im (2000 + j)) ∧ (∀ j, j < 64 → zp_n G' rz (2000 + j) = zp_n G rd (2000 + j)) ∧ (∀ x, P x = some 93 → zp_n G' x 0 = zp_n G x 0) ∧ ∀ b, P b = some 103 → b ≠ rz → ∀ k, zp_n G' b k = zp_n G b k)
theorem zI_efm {e1 e2 : List (Nat × Nat × Nat)} {ps ps2 : List Int} {P : Nat → Option Nat} {F F' : Nat → va_E} (h : zk_ef e1 ps P F F') (hm : ∀ q ∈ e1, (q.1, q.2.1, 0) ∈ e2) : zk_ef e2 ps2 P F F' := fun a t ha => (h a t ha).mono (fun k hk => by
  obtain ⟨q, q1, q2, q3, -⟩ := hk
  exact ⟨_, hm q q1, q2, q3, Or.inl rfl⟩)
theorem zI_num {F : Nat → va_E} {a k : Nat} {v : Value} (h : zk_rd (F a) k = some v) : zp_n F a k = zp_num v := by
  unfold zp_n
  rw [h]
theorem zI_rdq {cA : ClassId} {n j : Nat} {f : Nat → Option Nat} (h : j < n) : zk_rd (.inl (cA, n, .inr (.inr (.inr (.inr f))))) (2000 + j) = some (va_rf (f j)) := by
  unfold zk_rd
  dsimp only
  rw [if_neg (by omega), if_pos ⟨by omega, by omega⟩, Nat.add_sub_cancel_left]
  rfl
theorem zI_fj (j : Nat) : zk_fj (3, 2, 2, [(2, 93, (-1), 0)]) j = (2, 93, (-1), 0) := rfl
/-- the images -/
theorem zI_arr {w : zk_W} {s : State} {P : Nat → Option Nat} {F : Nat → va_E} {H : Heap} (hw : w.1 = zt_types) (h : zk_wt w s P F H) {im : Nat} (hp : P im = some 55) : ∃ (cA : ClassId) (f : Nat → Option Nat), F im = .inl (cA, 2, .inr (.inr (.inr (.inr f)))) ∧ ArrOfT s cA (.object (zk_rn w (3, 2, 2, [(2, 93, (-1), 0)]))) ∧ va_RA s cA (.object (zk_rn w (3, 2, 2, [(2, 93, (-1), 0)]))) ∧ (∀ j, j < 2 → zk_ok P (2, 93, (-1), 0) (zp_n F im (2000 + j)) ∧ va_rf (f j) = zk_mk 2 (zp_n F im (2000 + j))) ∧ H[im]? = some (vp_cell cA (2, .inr (.inr (.inr (.inr f))))) := by
  have hT : w.1[55]? = some ((3, 2, 2, [(2, 93, (-1), 0)]) : zk_T) := by rw [hw]; rfl
  obtain ⟨cA, n, f, o1, o2, o3, o4, o4', o5, o6, o7⟩ := zk_qarr h hp hT rfl
  have o2 : 2 ≤ n := o2
  have o3 : n ≤ 2 := o3
  obtain rfl : n = 2 := Nat.le_antisymm o3 o2
  refine ⟨cA, f, o1, o4, o4', fun j hj => ?_, o6⟩
  obtain ⟨z, z1, z2⟩ := o5 j hj
  rw [zI_fj] at z1 z2
  have e : zp_n F im (2000 + j) = z := by
    rw [zI_num (v := va_rf (f j)) (by rw [o1]; exact zI_rdq hj), z2]
    exact zp_num_mk z1 (Nat.le_refl 2)
  rw [e]
  exact ⟨z1, z2⟩
section ZI
variable {p : Program} {l : Launch} {e : Env} {R : Room} {s : State} {m : MethodId} {args : Array Value} {below : List Frame} {meth : Method} {c : Code} {Q : State → Prop}
variable {cc : ByteArray} {w : zk_W} {u : zk_M} {Ts : List Jvm.Cond} {own : String}
variable {lk : List zk_L} {KS : List zk_K} {km : List Nat} {lc : List (Nat × Nat × Nat)} {K : zk_K} {P0 P1 : Nat → Option Nat} {X : Nat → Prop} {G0 G1 : Nat → va_E} {ps : List Int}
/-- an end with a number -/
theorem zI_ret (hx : p.tables.exec = Jvm.exec) (hb : c.code = cc) (hE : zh_E l R s m args meth c w (zt_types, lk, zt_dv, KS, km, lc, K) P0 X) {B : zk_B} (hQ : Q = MQ below (fun _ st o t => zk_postX w K B P0 G0 ps st t o) args s (zk_Kr K).2.2.1 (zk_Kr K).2.2.2 (fun q => w.2.2.2.1 ≤ q)) (hps : zk_all2 (zk_ok P0) (zk_Kp K) ps) (hk2 : zk_Kk K ≠ 2) (hret : K.2.2.2.1 = some .int) {ps1 : List Int} {e1 : List (Nat × Nat × Nat)} {N1 : List Int} {κ : zk_C} {N : List Int} {P : Nat → Option Nat} {F : Nat → va_E} {H : Heap} {locs : List Loc} {ls : Array Slot} {sv : List Value} {cu su pc : Nat} (hG : zk_G w s (P1, G1, ps1, e1, N1, K.2.2.1, X) κ N P F H locs ls) (hext : ∀ a t, P0 a = some t → P1 a = some t) (hef : zk_ef (zk_Ke K) ps P0 G0 F) {r : Nat} (hS : zk_all2 (zk_sv κ.1 N) [(r, 0)] sv) {lo hi lo' hi' : Int} (e2 : κ.1[r]? = some (0, 0, lo', hi')) (e3 : (some ((0, 0, lo, hi) : zk_F), []) ∈ zk_Ka K) (elo : lo ≤ lo') (ehi : hi' ≤ hi) (e4 : decode cc pc = .ok (.ireturn, 1)) (e5 : cu ≤ (zk_Kr K).2.2.1) (e6 : su ≤ (zk_Kr K).2.2.2) (hB : ∀ n : Int, lo' ≤ n → n ≤ hi' → B P0 G0 ps P F n) : W p l e R s m args below meth c H locs cu su Q (F0 m pc ls sv) := by
  obtain ⟨⟨c1, c2, c3⟩, c4, c5, c6, c7, c8, c9, c10, c11, c12, c13, c14, c15, c16, c17, c18, c19, y1, y2, y3⟩ := hE [] P0 G0 (zk_Ke K) (zk_Ka K) ps (zk_Kp K) (zk_all2_len hps).symm (fun _ _ h => h)
  have hG2 := zh_back (ps := ps) (eff := zk_Ke K) (pa := []) hG hext hef (fun q h => absurd h List.not_mem_nil)
  cases sv with
  | nil => exact hS.elim
  | cons v rest =>
    cases rest with
    | cons v2 r2 => exact hS.2.elim
    | nil =>
      obtain ⟨hv, -⟩ := hS
      obtain ⟨n, hn, hok⟩ := zk_all2_get hG.1 e2
      obtain ⟨hv, -⟩ := zh_vi hv e2 hn
      rw [Int.add_zero] at hv
      subst hv
      have hBn := hB n hok.1 hok.2.1
      have hok' : zk_ok P ((0, 0, lo, hi) : zk_F) n := ⟨Int.le_trans elo hok.1, Int.le_trans hok.2.1 ehi, hok.2.2⟩
      have fin : ∀ t : State, t.heap = H → s.WarmedH t.vm → zk_postX w K B P0 G0 ps s t (.returned (some (.int (Int32.ofInt n)))) := fun t ht hWm => zk_fin (u := (P0, G0, ps, zk_Ke K, [], K.2.2.1, X)) (K := K) (al := (some (0, 0, lo, hi), [])) (rn := n) (X0 := fun _ => True) c8 c7 rfl c19 hG2 (by unfold zk_rct; exact if_neg hk2) e3 (fun f h => by cases h; exact ⟨hok', Nat.zero_le _⟩) (fun q h => absurd h List.not_mem_nil) (Or.inl ⟨hk2, hBn⟩) t ht hWm
      have hr := c18.2.1
      have hr : meth.sig.returnType = some .int := hr.trans hret
      refine W.widen e5 e6 ?_
      rw [hQ]
      exact W.iret hx hb hr (fun t ht hWm => fin t ht hWm) hG.2.2.2.2.2.2.2.2.1.2.2 e4 c18.1
/-- from the copy on to the end -/
theorem zI_46 (hx : p.tables.exec = Jvm.exec) (hb : c.code = cc) (hW : zh_W w) (hE : zh_E l R s m args meth c w zI_Ev P0 X) {B : zk_B} (hQ : Q = MQ below (fun _ st o t => zk_postX w zK_im5 B P0 G0 ps st t o) args s (zk_Kr zK_im5).2.2.1 (zk_Kr zK_im5).2.2.2 (fun q => w.2.2.2.1 ≤ q)) (hps : zk_all2 (zk_ok P0) (zk_Kp zK_im5) ps) (hcc : cc = zK_im5.2.1) {a z : Nat} {k : Int} {Pm : Nat → Option Nat} {Fm : Nat → va_E} {H : Heap} {locs : List Loc} {ls : Array Slot} {sv : List Value} {N : List Int} {N1 : List Int} {P1 : Nat → Option Nat} {F1 : Nat → va_E} {e1 : List (Nat × Nat × Nat)} (hG : zk_G w s (P1, F1, [(a : Int), k, (z : Int)], e1, N1, zK_im5.2.2.1, X) zM_46.2.1 N Pm Fm H locs ls) (hS : zk_all2 (zk_sv zM_46.2.1.1 N) zM_46.2.2.1 sv) (hext : ∀ a t, P0 a = some t → Pm a = some t) (hef : zk_ef (zk_Ke zK_im5) ps P0 G0 Fm)
    (hB : ∀ (P' : Nat → Option Nat) (F' : Nat → va_E) (n : Int) (tn rz rd : Nat), (∀ a t, Pm a = some t → P' a = some t) → Pm z = some 93 → zp_n Fm a 0 = (tn : Int) → zp_n Fm z 0 = (rz : Int) → Pm rz = some 103 → zp_n Fm tn 0 = (rd : Int) → Pm rd = some 42 → (∀ im, Pm im = some 55 → ∀ j, zp_n F' im (2000 + j) = zp_n Fm im (2000 + j)) → (∀ j, j < 64 → zp_n F' rz (2000 + j) = zp_n Fm rd (2000 + j)) → (∀ b, Pm b = some 103 → b ≠ rz → ∀ k, zp_n F' b k = zp_n Fm b k) → (∀ x, Pm x = some 93 → zp_n F' x 0 = zp_n Fm x 0) → B P0 G0 ps P' F' n) : W p l e R s m args below meth c H locs 16 198 Q (F0 m 46 ls sv) := by
  subst hcc
  have hlen : ([(a : Int), k, (z : Int)] : List Int).length = ([(2, 12, 0, 0), (0, 0, 0, 1), (2, 93, 0, 0)] : List zk_F).length := rfl
  have hpa : zk_pa N [(a : Int), k, (z : Int)] [(0, 3), (2, 4)] := hG.2.2.2.2.2.2.2.2.2.1
  have h3 : N[3]? = some (a : Int) := zh_pa (j := 0) hpa List.mem_cons_self rfl
  have h4 : N[4]? = some (z : Int) := zh_pa (j := 2) hpa (List.mem_cons_of_mem _ List.mem_cons_self) rfl
  obtain ⟨z2, hz2, qz⟩ := zh_r (i := 4) (t := 93) hG.1 rfl
  obtain rfl : z2 = z := by rw [h4] at hz2; have := Option.some.inj hz2; omega
  obtain ⟨tn, htn, q10⟩ := zh_r (i := 5) (t := 10) hG.1 rfl
  obtain ⟨v0, hv0, sv0⟩ := zh_rdf hG.2.2.1 (x := 3) (k := 0) List.mem_cons_self h3
  have ev0 := zh_vr sv0 rfl htn
  have etn : zp_n Fm a 0 = (tn : Int) := by
    rw [zI_num hv0, ev0]
    rfl
  have hw := hW.1
  obtain ⟨rz, hrz, qrz⟩ := zp_this (zp_rdf (zp_wt.of (xs := []) hG.2.2.2.2.1) hw qz (show zp_fd 93 0 = some (9, 2, 103, 0, 0) from rfl) (Nat.le_refl 2)).1
  obtain ⟨rd, hrd, qrd⟩ := zp_this (zp_rdf (zp_wt.of (xs := []) hG.2.2.2.2.1) hw q10 (show zp_fd 10 0 = some (9, 2, 42, 0, 0) from rfl) (Nat.le_refl 2)).1
  refine zh_call hx hb hE (eff := zE_46) hlen (zX_cr3203 hW) (mi := 177) rfl (i := .invokevirtual 434) (len := 3) (pc := 46) zI_o46e (by decide +kernel) hext (zh_reb hG hpa) hS (fun _ _ => trivial) (fun y hy N2 P2 F2 H2 locs2 ls2 sv2 ps2 rn2 hh2 hB2 hN2 hG2 hS2 => ?_)
  have hp2 : ps2 = [(z2 : Int), (tn : Int)] := by
    obtain ⟨y1, y2, rfl, ⟨k1, g1, g2⟩, k2, g3, g4⟩ := zp_ps2 (a1 := ((4, 0) : zk_S)) (a2 := ((5, 0) : zk_S)) hh2
    cases h4.symm.trans g1
    cases htn.symm.trans g3
    rw [g2, g4]
    simp
  subst hp2
  have b2 : (∀ j, j < 64 → zp_n F2 rz (2000 + j) = zp_n Fm rd (2000 + j)) ∧ ∀ b, Pm b = some 103 → b ≠ rz → ∀ k, zp_n F2 b k = zp_n Fm b k := hB2 rz rd hrz qrz hrd qrd
  have hef2 : zk_ef zE_46 [(a : Int), k, (z2 : Int)] Pm Fm F2 := hG2.2.2.2.2.2.2.2.1
  have hext2 : ∀ a t, Pm a = some t → P2 a = some t := hG2.2.2.2.2.2.2.1
  have hfr2 := zp_ef_fr hef2
  have hefz : zk_ef [(103, 1001, 0), (93, 1, 0), (43, 1001, 0), (93, 3, 0), (44, 1001, 0), (45, 1001, 0), (46, 1001, 0), (47, 1001, 0), (48, 1001, 0), (93, 9, 0), (49, 1001, 0), (50, 1001, 0), (51, 1001, 0), (52, 1001, 0), (93, 14, 0), (93, 15, 0), (93, 16, 0), (93, 17, 0), (17, 1001, 0), (18, 1001, 0), (19, 1001, 0), (2, 3, 0), (2, 4, 0), (2, 5, 0), (2, 6, 0)] [(a : Int), k, (z2 : Int)] Pm Fm F2 := zI_efm hef2 (by decide +kernel)
  have hefK2 : zk_ef (zk_Ke zK_im5) ps P0 G0 F2 := zh_ef hef hefz hext (by decide +kernel) (by decide +kernel)
  have hext02 : ∀ a t, P0 a = some t → P2 a = some t := fun x y h => hext2 _ _ (hext _ _ h)
  have hall : zI_o46.all (fun o => zk_go (zh_Es zI_Ev [(2, 12, 0, 0), (0, 0, 0, 1), (2, 93, 0, 0)] zE_54) (zc_X11_image.map (zq_note [(11, 1, []), (30, 2, []), (46, 3, []), (51, 4, [])])) [zM_54] none 182 o.1 (o.2.1.1, o.2.1.2.1, o.2.1.2.2.1, o.2.1.2.2.2.1, o.2.1.2.2.2.2.1, o.2.1.2.2.2.2.2.1, []) o.2.2.1 o.2.2.2.1 o.2.2.2.2) = true := by decide +kernel
  have hgo := List.all_eq_true.mp hall y hy
  refine zh_seg (eff := zE_54) (AL := []) (AN := [zM_54]) (fuel := 182) hx hb hE hlen (zq_note_ok zd_X11_image [(11, 1, []), (30, 2, []), (46, 3, []), (51, 4, [])]) (by rw [Bool.and_eq_true]; exact ⟨hgo, rfl⟩) hext02 (zh_reb hG2 hG2.2.2.2.2.2.2.2.2.2.1) hS2 (fun A hA => Or.inr (fun N4 P4 F4 H4 locs4 ls4 sv4 hG4 hS4 => ?_))
  obtain rfl := List.mem_singleton.mp hA
  have hef4 : zk_ef zE_54 [(a : Int), k, (z2 : Int)] P2 F2 F4 := hG4.2.2.2.2.2.2.2.1
  have hext4 : ∀ a t, P2 a = some t → P4 a = some t := hG4.2.2.2.2.2.2.1
  have hfr4 := zp_ef_fr hef4
  have hefK4 : zk_ef (zk_Ke zK_im5) ps P0 G0 F4 := zh_ef hefK2 hef4 hext02 (by decide +kernel) (by decide +kernel)
  refine zI_ret hx hb hE hQ hps (by decide) rfl hG4 hext02 hefK4 (r := 4) hS4 rfl (List.mem_singleton.mpr rfl) (by decide) (by decide) (by decide +kernel) (by decide) (by decide) (fun n n0 n1 => ?_)
  refine hB P4 F4 n tn rz rd (fun x y h => hext4 _ _ (hext2 _ _ h)) qz etn hrz qrz hrd qrd (fun im him j => ?_) (fun j hj => ?_) (fun x hx hxz k => ?_) (fun x hx => ?_)
  · exact (zp_nc hfr4 (hext2 _ _ him) rfl _).trans (zp_nc hfr2 him rfl _)
  · exact (zp_nc hfr4 (hext2 _ _ qrz) rfl _).trans (b2.1 j hj)
  · exact (zp_nc hfr4 (hext2 _ _ hx) rfl _).trans (b2.2 x hx hxz k)
  · exact (zp_nf hfr4 (hext2 _ _ hx) rfl).trans (zp_nf hfr2 hx rfl)
end ZI
theorem zh_pa2 {N ps : List Int} {A : List (Nat × Nat)} {x : Int} (h : zk_pa N ps A) : zk_pa (N ++ [x]) ps A := fun q hq => (h q hq).imp (fun n z => ⟨zk_get_snoc z.1, z.2⟩)
theorem zI_upn {F : Nat → va_E} {a b k : Nat} {x : va_E} (h : b ≠ a) : zp_n (zk_up F a x) b k = zp_n F b k := by
  unfold zp_n
  rw [zk_up_ne h]
theorem zI_pne {P : Nat → Option Nat} {a b t t2 : Nat} (h : P a = some t) (h2 : P b = some t2) (hn : t ≠ t2) : a ≠ b := by
  rintro rfl
  rw [h] at h2
  exact hn (Option.some.inj h2)
theorem zI_pa3 {N : List Int} {a b c : Int} {i j k : Nat} (h1 : N[i]? = some a) (h2 : N[j]? = some b) (h3 : N[k]? = some c) : zk_pa N [a, b, c] [(0, i), (1, j), (2, k)] := by
  intro x hx
  simp only [List.mem_cons, List.not_mem_nil, or_false] at hx
  rcases hx with rfl | rfl | rfl
  · exact ⟨_, h1, rfl⟩
  · exact ⟨_, h2, rfl⟩
  · exact ⟨_, h3, rfl⟩
def zM_46x : List zk_F := [(0, 0, 0, 0), (1, 0, 0, 0), (2, 0, (-1), (-1)), (2, 12, 0, 0), (0, 0, 0, 1), (2, 55, 0, 0), (2, 93, 0, 0)]
theorem zX_im7 {l : Launch} {w : zk_W} (hW : zh_W w) : zk_metX l w zt_dv zt_TB zK_im5 zA_im zB_im7 ∧ zk_cok w zt_TB zK_im5 := by
  have hw := hW.1
  refine zh_methH hW (lk := [(2, 16, 11, 1, 18), (3, 7, 9, 19, 0), (2, 10, 11, 0, 18)]) (KS := [zK_iw3, zK_13, zK_3201, zK_3203, zK_14]) (km := [15, 16, 1, 177, 17]) (lc := [(1, 107, 15), (0, 111, 16), (2, 9, 1), (0, 434, 177), (0, 118, 17)]) (pl := 1318) (by decide) (by decide +kernel) (by decide +kernel) (by
    intro K h
    rcases List.mem_cons.mp h with rfl | h
    · exact zq_iw3 hW
    rcases List.mem_cons.mp h with rfl | h
    · exact zq_13 hW
    rcases List.mem_cons.mp h with rfl | h
    · exact zq_3201 hW
    rcases List.mem_cons.mp h with rfl | h
    · exact zq_3203 hW
    rw [List.mem_singleton.mp h]
    exact zq_14 hW) (fun p e R s m args below meth c Q P0 G0 ps X hx hb hA hps hE hQ H locs ls hG => ?_)
  have hA0 : ∀ a t, P0 a = some t → zl_mt t = t := hA
  have hlen := (zk_all2_len hps).symm
  have hCL := zq_note_ok zd_X11_image [(11, 1, []), (30, 2, []), (46, 3, []), (51, 4, [])]
  have hps0 := hps
  obtain ⟨p0, p1, rfl, k0, k1⟩ := zp_ps2 hps0
  obtain ⟨a, rfl, hp⟩ := zp_this k0
  have h0 : zp_0 [(a : Int), p1] = a := zp_00 rfl
  refine zh_seg (st := []) (eff := zE_1) (AL := []) (AN := [zM_14a, zM_14b, zM_20]) (fuel := 182) hx hb hE hlen hCL (by decide +kernel) (fun _ _ h => h) (zh_reb (eff' := zE_1) hG hG.2.2.2.2.2.2.2.2.2.1) trivial (fun A hA => Or.inr (fun N' P' F' H' locs' ls' sv' hG' hS' => ?_))
  have hef : zk_ef zE_1 [(a : Int), p1] P0 G0 F' := hG'.2.2.2.2.2.2.2.1
  have hext : ∀ a t, P0 a = some t → P' a = some t := hG'.2.2.2.2.2.2.1
  have hfr := zp_ef_fr hef
  have hefK : zk_ef (zk_Ke zK_im5) [(a : Int), p1] P0 G0 F' := zI_efm hef (by decide +kernel)
  simp only [List.mem_cons, List.not_mem_nil, or_false] at hA
  rcases hA with rfl | rfl | rfl
  · have hk4 : N'[4]? = some p1 := zh_pa (j := 1) hG'.2.2.2.2.2.2.2.2.2.1 (List.mem_cons_of_mem _ List.mem_cons_self) rfl
    obtain ⟨z, hz0, z0, z1⟩ := zh_i (i := 0) hG'.1 rfl
    obtain rfl : z = 0 := Int.le_antisymm z1 z0
    have hd : p1 ≤ 0 + -1 := zh_d (x := 4) (y := 0) hG'.2.1 (List.mem_singleton.mpr rfl) hk4 hz0
    refine zI_ret hx hb hE hQ hps (by decide) rfl hG' (fun _ _ h => h) hefK (r := 5) hS' rfl (List.mem_singleton.mpr rfl) (by decide) (by decide) (by decide +kernel) (by decide) (by decide) (fun n n0 n1 => ?_)
    intro im tn rd _ h55 _ _ _ _
    refine ⟨fun _ => ⟨fun j _ => zp_nc hfr h55 rfl _, fun x hx => zp_nc hfr hx rfl _, fun x hx k => zp_nc hfr hx rfl _⟩, fun q hq e => ?_⟩
    have e : p1 = (q : Int) := e
    exfalso
    omega
  · have hk4 : N'[4]? = some p1 := zh_pa (j := 1) hG'.2.2.2.2.2.2.2.2.2.1 (List.mem_cons_of_mem _ List.mem_cons_self) rfl
    obtain ⟨z, hz0, z0, z1⟩ := zh_i (i := 0) hG'.1 rfl
    obtain rfl : z = 0 := Int.le_antisymm z1 z0
    have hd : 0 ≤ p1 + -2 := zh_d (x := 0) (y := 4) hG'.2.1 (List.mem_singleton.mpr rfl) hz0 hk4
    refine zI_ret hx hb hE hQ hps (by decide) rfl hG' (fun _ _ h => h) hefK (r := 5) hS' rfl (List.mem_singleton.mpr rfl) (by decide) (by decide) (by decide +kernel) (by decide) (by decide) (fun n n0 n1 => ?_)
    intro im tn rd _ h55 _ _ _ _
    refine ⟨fun _ => ⟨fun j _ => zp_nc hfr h55 rfl _, fun x hx => zp_nc hfr hx rfl _, fun x hx k => zp_nc hfr hx rfl _⟩, fun q hq e => ?_⟩
    have e : p1 = (q : Int) := e
    exfalso
    omega
  · obtain ⟨k, hk4, kl, kh⟩ := zh_i (i := 4) hG'.1 rfl
    have hk4' : N'[4]? = some p1 := zh_pa (j := 1) hG'.2.2.2.2.2.2.2.2.2.1 (List.mem_cons_of_mem _ List.mem_cons_self) rfl
    obtain rfl : k = p1 := Option.some.inj (hk4.symm.trans hk4')
    obtain ⟨q, rfl⟩ : ∃ q : Nat, k = (q : Int) := zp_nat kl
    have hq2 : q < 2 := by omega
    have h3 : N'[3]? = some (a : Int) := zh_pa (j := 0) hG'.2.2.2.2.2.2.2.2.2.1 List.mem_cons_self rfl
    obtain ⟨im, him, q55⟩ := zh_r (i := 5) (t := 55) hG'.1 rfl
    obtain ⟨v1, hv1, sv1⟩ := zh_rdf hG'.2.2.1 (x := 3) (k := 1) List.mem_cons_self h3
    have ev1 := zh_vr sv1 rfl him
    have eim : zp_n G0 a 1 = (im : Int) := by
      rw [← zp_nf hfr hp rfl, zI_num hv1, ev1]
      rfl
    have hGr := zl_mG hw (by decide +kernel) hA0 hG'
    obtain ⟨Pq, hPq⟩ : ∃ x, x = zl_Pm P' := ⟨_, rfl⟩
    rw [← hPq] at hGr
    have hGr : zk_G w s (P0, G0, [(a : Int), (q : Int)], zE_1, N', zK_im5.2.2.1, X) (zM_20.2.1.1, [], [], [], zM_20.2.1.2.2.2.2.1, zM_20.2.1.2.2.2.2.2.1, []) N' Pq F' H' locs' ls' := hGr
    have hMq : ∀ a t, Pq a = some t → zl_mt t = t := fun a t h => by rw [hPq] at h; exact zl_Pmm h
    have hext : ∀ a t, P0 a = some t → Pq a = some t := fun x t h => by rw [hPq, zl_Pme (hext x t h), hA0 x t h]
    have q55 : Pq im = some 55 := by rw [hPq]; exact zl_Pme q55
    obtain ⟨cA, f, o1, o4, o4', o5, o6⟩ := zI_arr hw hGr.2.2.2.2.1 q55
    obtain ⟨wa, wb, rfl, s1, s2⟩ := zp_ps2 (a1 := ((4, 0) : zk_S)) (a2 := ((5, 0) : zk_S)) hS'
    obtain ⟨ek, rk⟩ := zh_vi s1 rfl hk4
    have em := zh_vr s2 rfl him
    rw [Int.add_zero] at ek rk
    subst ek
    subst em
    obtain ⟨i1, i2⟩ := zp_ix (n := 2) rfl hq2 rk
    refine zw_aald (pc := 20) hx hb o6 o4 i1 (by decide +kernel) ?_
    rw [i2, (o5 q hq2).2]
    obtain ⟨z, ez⟩ : ∃ z, zp_n F' im (2000 + q) = z := ⟨_, rfl⟩
    have z1 := (o5 q hq2).1
    rw [ez] at z1 ⊢
    have him0 : ∀ im2 : Nat, zp_n G0 (zp_0 [(a : Int), (q : Int)]) 1 = (im2 : Int) → im2 = im := fun im2 h => by rw [h0, eim] at h; omega
    have hG1 := zh_un hGr
    have hl6 : N'.length = 6 := (zk_all2_len hGr.1).symm
    have hlast : ∀ y : Int, (N' ++ [y])[6]? = some y := fun y => by rw [← hl6]; exact zk_get_last
    by_cases hz : 0 ≤ z
    · obtain ⟨zn, rfl⟩ := zp_nat hz
      have hpa3 : zk_pa (N' ++ [(zn : Int)]) [(a : Int), (q : Int), (zn : Int)] [(0, 3), (1, 4), (2, 6)] := zI_pa3 (zk_get_snoc h3) (zk_get_snoc hk4) (hlast _)
      refine zh_seg (eff := []) (AL := []) (AN := [zM_46]) (fuel := 182) (kp' := ([(2, 12, 0, 0), (0, 0, 0, 1), (2, 93, 0, 0)] : List zk_F)) hx hb hE rfl hCL (by decide +kernel) hext (zh_reb (eff' := []) (hG1.push (f := (2, 93, 0, 0)) (n := (zn : Int)) (show zk_ok Pq ((2, 93, 0, 0) : zk_F) (zn : Int) from ⟨hz, z1.2.1, fun h => absurd h (by decide), z1.2.2.2⟩)) hpa3) (zh_one (zk_sv_last hG1.1 (show zk_ok Pq ((2, 93, 0, 0) : zk_F) (zn : Int) from ⟨hz, z1.2.1, fun h => absurd h (by decide), z1.2.2.2⟩))) (fun A hA => Or.inr (fun N2 P2 F2 H2 locs2 ls2 sv2 hG2 hS2 => ?_))
      obtain rfl := List.mem_singleton.mp hA
      have hef2 : zk_ef [] [(a : Int), (q : Int), (zn : Int)] Pq F' F2 := hG2.2.2.2.2.2.2.2.1
      have hext2 : ∀ a t, Pq a = some t → P2 a = some t := hG2.2.2.2.2.2.2.1
      have hfr2 := zp_ef_fr hef2
      have hefK2 : zk_ef (zk_Ke zK_im5) [(a : Int), (q : Int)] P0 G0 F2 := zh_ef hefK hef2 hext (by decide +kernel) (fun e h => absurd h List.not_mem_nil)
      refine zI_46 hx hb hW hE hQ hps rfl hG2 hS2 (fun x y h => hext2 _ _ (hext _ _ h)) hefK2 (fun P5 F5 n tn5 rz rd5 hx5 qz5 e0 hrz qrz hrd5 qrd5 fim fz fo f0 => ?_)
      intro im2 tn2 rd2 h2 h55 h10 q10 h11 q42
      obtain rfl := him0 im2 h2
      have h10 : zp_n G0 a 0 = (tn2 : Int) := by rw [h0] at h10; exact h10
      have g0 : zp_n F2 a 0 = zp_n G0 a 0 := (zp_nc hfr2 (hext _ _ hp) rfl _).trans (zp_nf hfr hp rfl)
      obtain rfl : tn5 = tn2 := by omega
      have gg : ∀ x t k, P0 x = some t → zp_ncb zE_1 t = true → zp_n F2 x k = zp_n G0 x k := fun x t k hx ht => (zp_nc hfr2 (hext _ _ hx) rfl _).trans (zp_nc hfr hx ht _)
      refine ⟨fun h => absurd (show 0 ≤ (q : Int) ∧ (q : Int) ≤ 1 from ⟨by omega, by omega⟩) h, fun q2 hq2' e => ?_⟩
      have e : (q : Int) = (q2 : Int) := e
      obtain rfl : q = q2 := Int.ofNat.inj e
      have g55 := hext2 _ _ q55
      have g01 : zp_n F2 tn5 0 = zp_n G0 tn5 0 := gg _ _ _ q10 rfl
      obtain rfl : rd5 = rd2 := by omega
      have hz0 : P0 zn = some 93 := by
        obtain ⟨cC, f3, x1, x2, x3, x4, x5⟩ := zI_arr hw hG.2.2.2.2.1 h55
        have x6 := (x4 q hq2).1
        rw [← zp_nc hfr h55 rfl, ez] at x6
        have x7 := x6.2.2.2 (by omega)
        rwa [Int.toNat_natCast] at x7
      have hrz0 : zp_n G0 zn 0 = (rz : Int) := (gg _ _ _ hz0 rfl).symm.trans hrz
      refine ⟨zn, rz, (fim _ g55 q).trans ((zp_nc hfr2 q55 rfl _).trans ez), hx5 _ _ qz5, (f0 _ qz5).trans hrz, hx5 _ _ qrz, fun _ => ⟨(zp_nc hfr h55 rfl _).symm.trans ez, hrz0⟩, fun h => ?_, fun j hj hne => (fim _ g55 j).trans (gg _ _ _ h55 rfl), fun j hj => (fz j hj).trans (gg _ _ _ q42 rfl), fun x hx => (f0 x (hext2 _ _ (hext _ _ hx))).trans (gg _ _ _ hx rfl), fun x hx hne k => (fo x (hext2 _ _ (hext _ _ hx)) hne k).trans (gg _ _ _ hx rfl)⟩
      exfalso
      rw [← zp_nc hfr h55 rfl, ez] at h
      omega
    · refine zh_seg (eff := []) (AL := []) (AN := [zM_40]) (fuel := 182) hx hb hE hlen hCL (by decide +kernel) hext (zh_reb (eff' := []) (hG1.push (f := (2, 93, (-1), (-1))) (n := z) (show zk_ok Pq ((2, 93, (-1), (-1)) : zk_F) z from ⟨z1.1, z1.2.1, fun _ => Int.not_le.mp hz, z1.2.2.2⟩)) (zh_pa2 hG1.2.2.2.2.2.2.2.2.2.1)) (zh_one (zk_sv_last hG1.1 (show zk_ok Pq ((2, 93, (-1), (-1)) : zk_F) z from ⟨z1.1, z1.2.1, fun _ => Int.not_le.mp hz, z1.2.2.2⟩))) (fun A hA => Or.inr (fun N2 P2 F2 H2 locs2 ls2 sv2 hG2 hS2 => ?_))
      obtain rfl := List.mem_singleton.mp hA
      have hef2 : zk_ef [] [(a : Int), (q : Int)] Pq F' F2 := hG2.2.2.2.2.2.2.2.1
      have hext2 : ∀ a t, Pq a = some t → P2 a = some t := hG2.2.2.2.2.2.2.1
      have hfr2 := zp_ef_fr hef2
      have hefK2 : zk_ef (zk_Ke zK_im5) [(a : Int), (q : Int)] P0 G0 F2 := zh_ef hefK hef2 hext (by decide +kernel) (fun e h => absurd h List.not_mem_nil)
      obtain ⟨k, hk24, kl2, kh2⟩ := zh_i (i := 4) hG2.1 rfl
      have hk24' : N2[4]? = some (q : Int) := zh_pa (j := 1) hG2.2.2.2.2.2.2.2.2.2.1 (List.mem_cons_of_mem _ List.mem_cons_self) rfl
      obtain rfl : k = (q : Int) := Option.some.inj (hk24.symm.trans hk24')
      have h23 : N2[3]? = some (a : Int) := zh_pa (j := 0) hG2.2.2.2.2.2.2.2.2.2.1 List.mem_cons_self rfl
      obtain ⟨jm, hjm, qj55⟩ := zh_r (i := 5) (t := 55) hG2.1 rfl
      obtain ⟨v2, hv2, sv2'⟩ := zh_rdf hG2.2.2.1 (x := 3) (k := 1) List.mem_cons_self h23
      have ev2 := zh_vr sv2' rfl hjm
      have ejm : zp_n F' a 1 = (jm : Int) := by
        rw [← zp_nc hfr2 (hext _ _ hp) rfl, zI_num hv2, ev2]
        rfl
      have ejm2 : zp_n F' a 1 = (im : Int) := (zp_nf hfr hp rfl).trans eim
      obtain rfl : jm = im := by rw [ejm] at ejm2; omega
      obtain ⟨nw, hnw, q104⟩ := zh_r (i := 6) (t := 104) hG2.1 rfl
      have hnone : Pq nw = none := by
        obtain ⟨n, n1, n2, n3⟩ := hG2.2.2.2.2.2.2.2.2.2.2.1 6 List.mem_cons_self
        cases hnw.symm.trans n1
        exact n3
      have hnone0 : P0 nw = none := by
        cases h : P0 nw with
        | none => rfl
        | some t => have := hext _ _ h; rw [hnone] at this; cases this
      obtain ⟨rz, hrz, q105⟩ := zp_this (zp_rdf (zp_wt.of (xs := []) hG2.2.2.2.2.1) hw q104 (show zp_fd 104 0 = some (9, 2, 105, 0, 0) from rfl) (Nat.le_refl 2)).1
      have hrnone0 : P0 rz = none := by
        cases h : P0 rz with
        | none => rfl
        | some t =>
          have h1 := hext2 _ _ (hext _ _ h)
          rw [q105] at h1
          have h2 := hA0 _ _ h
          rw [← Option.some.inj h1] at h2
          exact absurd h2 (by decide +kernel)
      have hGr2 := zl_mG hw (by decide +kernel) hMq hG2
      obtain ⟨P2q, hP2q⟩ : ∃ x, x = zl_Pm P2 := ⟨_, rfl⟩
      rw [← hP2q] at hGr2
      have hGr2 : zk_G w s (Pq, F', [(a : Int), (q : Int)], [], N2, zK_im5.2.2.1, X) (zM_46x, [], [], [], zM_40.2.1.2.2.2.2.1, zM_40.2.1.2.2.2.2.2.1, []) N2 P2q F2 H2 locs2 ls2 := hGr2
      have hext2 : ∀ a t, Pq a = some t → P2q a = some t := fun x t h => by rw [hP2q, zl_Pme (hext2 x t h), hMq x t h]
      have q93 : P2q nw = some 93 := by rw [hP2q]; exact zl_Pme q104
      have q103 : P2q rz = some 103 := by rw [hP2q]; exact zl_Pme q105
      have qj55 : P2q jm = some 55 := by rw [hP2q]; exact zl_Pme qj55
      obtain ⟨cB, g, g1, g4, g4', g5, g6⟩ := zI_arr hw hGr2.2.2.2.2.1 qj55
      obtain ⟨wn, wa, wb, rfl, t1, t2, t3⟩ := zp_ps3 (a1 := ((6, 0) : zk_S)) (a2 := ((4, 0) : zk_S)) (a3 := ((5, 0) : zk_S)) hS2
      have en := zh_vr t1 rfl hnw
      obtain ⟨ek, rk2⟩ := zh_vi t2 rfl hk24
      have em := zh_vr t3 rfl hjm
      rw [Int.add_zero] at ek
      subst en
      subst ek
      subst em
      have hT10 : w.1[93]? = some (zt_types.getD 93 (0, 0, 0, [])) := by rw [hw]; rfl
      obtain ⟨fs, b1, b2, b3, b4⟩ := zk_obj hGr2.2.2.2.2.1 q93 hT10 rfl
      obtain ⟨r, hr, b5⟩ := b3
      have hrn : zk_rn w (3, 2, 2, [(2, 93, (-1), 0)]) = r.1 := by
        unfold zk_rn
        rw [show w.1[(zk_f0 ((3, 2, 2, [(2, 93, (-1), 0)]) : zk_T)).2.1]? = some (zt_types.getD 93 (0, 0, 0, [])) from hT10]
        dsimp only
        rw [List.getD_eq_getElem?_getD, hr]
        rfl
      have p4 := g4
      have p4' := g4'
      rw [hrn] at p4 p4'
      have hK : va_K w.2.2.1 w.2.1 [] s := (hE [] P0 G0 (zk_Ke zK_im5) (zk_Ka zK_im5) [(a : Int), (q : Int)] (zk_Kp zK_im5) hlen (fun _ _ h => h)).2.2.2.2.1
      refine zw_aast (pc := 40) hx hb hK hr g6 p4 p4' i1 (o := some nw) (fun v hv => by cases hv; exact ⟨fs, r, hr, b5⟩) (by decide +kernel) (fun H3 jj e1 hz3 hk3 => ?_)
      rw [i2] at e1
      have hsame : zk_same (fun k => 2000 ≤ k ∧ k ≤ 1000000000000) (F2 jm) (.inl (cB, 2, .inr (.inr (.inr (.inr (zk_up g q (some nw)))))) : va_E) := by
        rw [g1]
        exact ⟨rfl, rfl, fun i hi h => absurd (show 2000 ≤ 2000 + i ∧ 2000 + i ≤ 1000000000000 from ⟨by omega, by have : i < 2 := hi; omega⟩) h⟩
      have hel : ∀ i, i < 2 → zk_fv P2q (zk_fj (3, 2, 2, [(2, 93, (-1), 0)]) i) (va_rf (zk_up g q (some nw) i)) := by
        intro i hi
        by_cases hij : i = q
        · rw [hij, zk_up_self]
          refine ⟨(nw : Int), ⟨by show (-1 : Int) ≤ (nw : Int); omega, by omega, fun h => absurd h (show ¬ ((0 : Int) < 0) by decide), fun _ => q93⟩, ?_⟩
          show va_rf (some nw) = zk_mk 2 (nw : Int)
          rw [zk_mk_ref (Nat.le_refl 2), if_neg (by omega), Int.toNat_natCast]
          rfl
        · rw [zk_up_ne hij]
          exact ⟨_, (g5 i hi).1, (g5 i hi).2⟩
      have hG3 := (zh_reb (eff' := [(55, 1001, 0)]) (zh_un hGr2) hGr2.2.2.2.2.2.2.2.2.2.1).write (e' := (.inl (cB, 2, .inr (.inr (.inr (.inr (zk_up g q (some nw)))))) : va_E)) (L := [⟨jm, jj⟩]) (Pk := fun k => 2000 ≤ k ∧ k ≤ 1000000000000) (A := []) qj55 (show w.1[55]? = some ((3, 2, 2, [(2, 93, (-1), 0)]) : zk_T) by rw [hw]; rfl) ⟨cB, 2, _, rfl, Nat.le_refl _, Nat.le_refl _, g4, g4', hel⟩ (show va_at _ _ (jm, .inl (cB, 2, .inr (.inr (.inr (.inr _))))) H3 from e1) hz3 hk3 (fun x hx => by rw [List.mem_singleton.mp hx]) hsame (Or.inr (fun k hk => ⟨(55, 1001, 0), List.mem_cons_self, rfl, hk, Or.inl rfl⟩)) trivial (fun x h => absurd h List.not_mem_nil)
      have hef3 : zk_ef [(55, 1001, 0)] [(a : Int), (q : Int)] P2q F2 (zk_up F2 jm (.inl (cB, 2, .inr (.inr (.inr (.inr (zk_up g q (some nw)))))) : va_E)) := hG3.2.2.2.2.2.2.2.1
      have hext02 : ∀ a t, P0 a = some t → P2q a = some t := fun x y h => hext2 _ _ (hext _ _ h)
      have hefK3 : zk_ef (zk_Ke zK_im5) [(a : Int), (q : Int)] P0 G0 (zk_up F2 jm (.inl (cB, 2, .inr (.inr (.inr (.inr (zk_up g q (some nw)))))) : va_E)) := zh_ef hefK2 hef3 hext02 (by decide +kernel) (by decide +kernel)
      have hpa3 : zk_pa N2 [(a : Int), (q : Int), (nw : Int)] [(0, 3), (1, 4), (2, 6)] := zI_pa3 h23 hk24 hnw
      refine zh_seg (st := []) (eff := []) (AL := []) (AN := [zM_46]) (fuel := 182) (kp' := ([(2, 12, 0, 0), (0, 0, 0, 1), (2, 93, 0, 0)] : List zk_F)) hx hb hE rfl hCL (by decide +kernel) hext02 (zh_reb (eff' := []) hG3 hpa3) zh_nil (fun A hA => Or.inr (fun N4 P4 F4 H4 locs4 ls4 sv4 hG4 hS4 => ?_))
      obtain rfl := List.mem_singleton.mp hA
      have hef4 : zk_ef [] [(a : Int), (q : Int), (nw : Int)] P2q (zk_up F2 jm (.inl (cB, 2, .inr (.inr (.inr (.inr (zk_up g q (some nw)))))) : va_E)) F4 := hG4.2.2.2.2.2.2.2.1
      have hext4 : ∀ a t, P2q a = some t → P4 a = some t := hG4.2.2.2.2.2.2.1
      have hfr4 := zp_ef_fr hef4
      have hefK4 : zk_ef (zk_Ke zK_im5) [(a : Int), (q : Int)] P0 G0 F4 := zh_ef hefK3 hef4 hext02 (by decide +kernel) (fun e h => absurd h List.not_mem_nil)
      refine zI_46 hx hb hW hE hQ hps rfl hG4 hS4 (fun x y h => hext4 _ _ (hext02 _ _ h)) hefK4 (fun P5 F5 n tn5 rz0 rd5 hx5 qz5 e0 hrz qrz hrd5 qrd5 fim fz fo f0 => ?_)
      intro im2 tn2 rd2 h2 h55 h10 q10 h11 q42
      obtain rfl := him0 im2 h2
      have h10 : zp_n G0 a 0 = (tn2 : Int) := by rw [h0] at h10; exact h10
      have gg : ∀ x t k, P0 x = some t → t ≠ 55 → zp_n F4 x k = zp_n F' x k := fun x t k hx ht => (zp_nc hfr4 (hext02 _ _ hx) rfl _).trans ((zI_upn (zI_pne (hext02 _ _ hx) qj55 ht)).trans (zp_nc hfr2 (hext _ _ hx) rfl _))
      have g0 : zp_n F4 a 0 = zp_n G0 a 0 := (gg _ _ _ hp (by decide)).trans (zp_nf hfr hp rfl)
      obtain rfl : tn5 = tn2 := by omega
      have e5 : ∀ j, j < 2 → zp_n F4 im2 (2000 + j) = zp_num (va_rf (zk_up g q (some nw) j)) := fun j hj => (zp_nc hfr4 qj55 rfl _).trans (zI_num (by rw [zk_up_self]; exact zI_rdq hj))
      refine ⟨fun h => absurd (show 0 ≤ (q : Int) ∧ (q : Int) ≤ 1 from ⟨by omega, by omega⟩) h, fun q2 hq2' e => ?_⟩
      have e : (q : Int) = (q2 : Int) := e
      obtain rfl : q = q2 := Int.ofNat.inj e
      have g55 := hext4 _ _ qj55
      have g01 : zp_n F4 tn5 0 = zp_n G0 tn5 0 := (gg _ _ _ q10 (by decide)).trans (zp_nc hfr q10 rfl _)
      obtain rfl : rd5 = rd2 := by omega
      have hrz9 : zp_n F4 nw 0 = zp_n F2 nw 0 := (zp_nc hfr4 q93 rfl _).trans (zI_upn (zI_pne q93 qj55 (by decide)))
      obtain rfl : rz0 = rz := by omega
      have ga : ∀ x t k, P0 x = some t → t ≠ 55 → zp_ncb zE_1 t = true → zp_n F4 x k = zp_n G0 x k := fun x t k hx ht he => (gg _ _ _ hx ht).trans (zp_nc hfr hx he _)
      refine ⟨nw, rz0, ?_, hx5 _ _ qz5, (f0 _ qz5).trans (hrz9.trans hrz), hx5 _ _ qrz, fun h => ?_, fun _ => ⟨hnone0, hrnone0⟩, fun j hj hne => ?_, fun j hj => (fz j hj).trans (ga _ _ _ q42 (by decide) rfl), fun x hx => (f0 x (hext4 _ _ (hext02 _ _ hx))).trans (ga _ _ _ hx (by decide) rfl), fun x hx hne k => (fo x (hext4 _ _ (hext02 _ _ hx)) hne k).trans (ga _ _ _ hx (by decide) rfl)⟩
      · rw [fim _ g55 q, e5 q hq2, zk_up_self]
        rfl
      · exfalso
        rw [← zp_nc hfr h55 rfl, ez] at h
        exact hz h
      · rw [fim _ g55 j, e5 j hj, zk_up_ne hne, (g5 j hj).2, zp_num_mk (f := (2, 93, (-1), 0)) (g5 j hj).1 (Nat.le_refl 2)]
        exact (zp_nc hfr2 q55 rfl _).trans (zp_nc hfr h55 rfl _)
