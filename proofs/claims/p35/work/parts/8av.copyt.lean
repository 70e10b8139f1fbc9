/-! part 8av: copyFrom, with the roads -/
theorem zh_rdn {w : zk_W} {s : State} {xs : List Nat} {P : Nat → Option Nat} {F : Nat → va_E} {H : Heap} (h : zp_wt w s xs P F H) (hw : w.1 = zt_types) {a t k ci b t2 : Nat} {lo hi : Int} (hp : P a = some t) (hf : zp_fd t k = some (ci, 2, t2, lo, hi)) (hv : zp_n F a k = (b : Int)) : zk_rd (F a) k = some (.ref b) := by
  obtain ⟨-, fs, T, -, -, -, -, e1, -, -, e2⟩ := zp_rdf h hw hp hf (Nat.le_refl 2)
  rw [hv, zp_ref] at e2
  rw [e1]
  exact e2
/-- roads are the other's; no other image's roads change -/
def zB_cr (t0 t1 : Nat) : zk_B := fun P G ps _ G' _ => ∀ r r2 : Nat, zp_n G (zp_0 ps) 0 = (r : Int) → P r = some t0 → zp_n G (ps.getD 1 0).toNat 0 = (r2 : Int) → P r2 = some t1 → (∀ j, j < 64 → zp_n G' r (2000 + j) = zp_n G r2 (2000 + j)) ∧ ∀ b, P b = some t0 → b ≠ r → ∀ k, zp_n G' b k = zp_n G b k
def zE_cr3203 : List (Nat × Nat × Nat) := [(93, 1, 1), (43, 1001, 0), (93, 3, 1), (44, 1001, 0), (45, 1001, 0), (46, 1001, 0), (47, 1001, 0), (48, 1001, 0), (93, 9, 1), (49, 1001, 0), (50, 1001, 0), (51, 1001, 0), (52, 1001, 0), (93, 14, 1), (93, 15, 1), (93, 16, 1), (93, 17, 1), (17, 1001, 0), (18, 1001, 0), (19, 1001, 0), (2, 3, 0), (2, 4, 0), (2, 5, 0), (2, 6, 0)]
def zA_cr3203 : List zk_An := [(176, ([(0, 0, 0, 0), (1, 0, 0, 0), (2, 0, (-1), (-1)), (2, 93, 0, 0), (2, 10, 0, 0), (0, 0, 0, 6), (2, 51, 0, 0), (2, 50, 0, 0), (2, 49, 0, 0), (0, 0, 0, 8), (2, 48, 0, 0), (2, 47, 0, 0), (2, 46, 0, 0), (2, 45, 0, 0), (2, 44, 0, 0), (0, 0, 0, 10), (2, 43, 0, 0), (0, 0, 0, 6), (2, 103, 0, 0), (2, 51, 0, 0), (2, 50, 0, 0), (2, 49, 0, 0), (2, 48, 0, 0), (2, 47, 0, 0), (2, 46, 0, 0), (2, 45, 0, 0), (2, 44, 0, 0), (2, 43, 0, 0), (2, 42, 0, 0)], [], [(3, 12, (6, 0)), (3, 11, (7, 0)), (3, 10, (8, 0)), (3, 9, (9, 0)), (3, 8, (10, 0)), (3, 7, (11, 0)), (3, 6, (12, 0)), (3, 5, (13, 0)), (3, 4, (14, 0)), (3, 3, (15, 0)), (3, 2, (16, 0)), (3, 1, (17, 0)), (3, 0, (18, 0)), (4, 12, (19, 0)), (4, 11, (20, 0)), (4, 10, (21, 0)), (4, 9, (9, 0)), (4, 8, (22, 0)), (4, 7, (23, 0)), (4, 6, (24, 0)), (4, 5, (25, 0)), (4, 4, (26, 0)), (4, 3, (15, 0)), (4, 2, (27, 0)), (4, 1, (17, 0)), (4, 0, (28, 0))], [], [(2, (5, 0)), (0, (3, 0)), (1, (4, 0))], [(0, 3), (1, 4)], []), [], 0, 0, (6, [((-1), 5)]))]
def zR_cr3203 : List zk_An := [(243, ([(0, 0, 0, 0), (1, 0, 0, 0), (2, 0, (-1), (-1)), (2, 93, 0, 0)], [], [], [], [], [(0, 3)], []), [], 0, 0, ((-1), []))]
def zk_cr3203 : zk_C := ([(0, 0, 0, 0), (1, 0, 0, 0), (2, 0, (-1), (-1)), (2, 93, 0, 0), (2, 10, 0, 0), (2, 103, 0, 0), (2, 42, 0, 0)], [], [(3, 0, (5, 0)), (4, 0, (6, 0))], [], [(0, (3, 0)), (1, (4, 0))], [(0, 3), (1, 4)], [])
theorem zX_cr3203 {l : Launch} {w : zk_W} (hW : zh_W w) : zk_metX l w zt_dv zt_TB zK_3203 zk_tA (zB_cr 103 42) ∧ zk_cok w zt_TB zK_3203 := by
  have hw := hW.1
  refine zh_methH hW (lk := [(2, 9, 9, 0, 18), (8, 62, 0, 0, 0), (2, 68, 9, 1, 0), (2, 15, 9, 2, 18), (2, 71, 9, 3, 0), (2, 18, 9, 4, 18), (2, 21, 9, 5, 18), (2, 24, 9, 6, 18), (2, 27, 9, 7, 18), (2, 30, 9, 8, 18), (2, 74, 9, 9, 0), (2, 33, 9, 10, 18), (2, 36, 9, 11, 18), (2, 39, 9, 12, 18), (2, 44, 9, 13, 18), (2, 77, 9, 14, 0), (2, 48, 9, 15, 0), (2, 52, 9, 16, 0), (2, 80, 9, 17, 0), (2, 58, 9, 18, 18)]) (KS := [zK_161]) (km := [80]) (lc := [(0, 83, 80)]) (pl := 1322) (by decide) (by decide +kernel) (by decide +kernel) (by
    intro K h
    rw [List.mem_singleton.mp h]
    exact zq_161 hW) (fun p e R s m args below meth c Q P0 G0 ps X hx hb hA hps hE hQ H locs ls hG => ?_)
  have hlen := (zk_all2_len hps).symm
  have hps0 := hps
  obtain ⟨p0, p1, rfl, k0, k1⟩ := zp_ps2 hps0
  obtain ⟨a, rfl, hp⟩ := zp_this k0
  obtain ⟨b, rfl, hpb⟩ := zp_this k1
  have hE0 := hE
  have hE1 := hE [] P0 G0 (zk_Ke zK_3203) (zk_Ka zK_3203) [(a : Int), (b : Int)] (zk_Kp zK_3203) hlen (fun _ _ h => h)
  obtain ⟨h1, h2, h3, h4, h5, ⟨lv, h6a, h6b⟩, h7, h8, h9, h10, h11, h12, h13⟩ := hG
  have hlv := zp_L0_ok (fs := zk_Kp zK_3203) (ps := [(a : Int), (b : Int)]) (i := 0) (j := 3) rfl (fun t f h => by
    show (zk_V0 ++ zk_Kp zK_3203)[3 + t]? = some f
    rw [List.getElem?_append_right (by show 3 ≤ 3 + t; omega)]
    show (zk_Kp zK_3203)[3 + t - 3]? = some f
    rw [show 3 + t - 3 = t by omega]
    exact h) (fun t n h => by
    rw [List.getElem?_append_right (by show 3 ≤ 3 + t; omega)]
    show [(a : Int), (b : Int)][3 + t - 3]? = some n
    rw [show 3 + t - 3 = t by omega]
    exact h) h6b
  rw [hlv] at h6a
  have hJ : zp_J p l e R s m args below meth c Q w (P0, G0, [(a : Int), (b : Int)], zk_Ke zK_3203, [], zK_3203.2.2.1, X) [] 0 [(0, 2, (a : Int)), (1, 2, (b : Int))] [] P0 (zp_n G0) := by
    have hE : zk_ctx l R s m args meth c w (P0, G0, [(a : Int), (b : Int)], zk_Ke zK_3203, [], zK_3203.2.2.1, X) zt_TB "WoundTown$Town" zt_TB zt_mn (zt_types, [(2, 9, 9, 0, 18), (8, 62, 0, 0, 0), (2, 68, 9, 1, 0), (2, 15, 9, 2, 18), (2, 71, 9, 3, 0), (2, 18, 9, 4, 18), (2, 21, 9, 5, 18), (2, 24, 9, 6, 18), (2, 27, 9, 7, 18), (2, 30, 9, 8, 18), (2, 74, 9, 9, 0), (2, 33, 9, 10, 18), (2, 36, 9, 11, 18), (2, 39, 9, 12, 18), (2, 44, 9, 13, 18), (2, 77, 9, 14, 0), (2, 48, 9, 15, 0), (2, 52, 9, 16, 0), (2, 80, 9, 17, 0), (2, 58, 9, 18, 18)], zt_dv, [zK_161], [80], [(0, 83, 80)], zK_3203) := hE1
    refine zp_kn (k := 0) (a := a) hw (show zp_fd 93 0 = some (9, 2, 103, 0, 0) from rfl) rfl hp (fun hkr => ?_)
    obtain ⟨r, hr, qr⟩ := zp_this hkr
    refine zp_kn (k := 0) (a := b) hw (show zp_fd 10 0 = some (9, 2, 42, 0, 0) from rfl) rfl hpb (fun hkr2 => ?_)
    obtain ⟨r2, hr2, qr2⟩ := zp_this hkr2
    refine zp_load (pc := 0) hx hb (zd_X9_copyFrom (0, .aload_n 1, 1, 0, []) (List.mem_of_getElem? (i := 0) rfl)) rfl (j := 1) rfl ?_
    refine zp_getf (n := (r2 : Int)) (pc := 1) hx hb hE hw (zd_X9_copyFrom (1, .getfield 9, 3, 0, []) (List.mem_of_getElem? (i := 1) rfl)) (j := 0) rfl rfl rfl hpb hr2 ?_
    refine zp_const (pc := 4) hx hb (zd_X9_copyFrom (4, .iconst 0, 1, 0, []) (List.mem_of_getElem? (i := 2) rfl)) rfl rfl ?_
    refine zp_load (pc := 5) hx hb (zd_X9_copyFrom (5, .aload_n 0, 1, 0, []) (List.mem_of_getElem? (i := 3) rfl)) rfl (j := 0) rfl ?_
    refine zp_getf (n := (r : Int)) (pc := 6) hx hb hE hw (zd_X9_copyFrom (6, .getfield 9, 3, 0, []) (List.mem_of_getElem? (i := 4) rfl)) (j := 0) rfl rfl rfl hp hr ?_
    refine zp_const (pc := 9) hx hb (zd_X9_copyFrom (9, .iconst 0, 1, 0, []) (List.mem_of_getElem? (i := 5) rfl)) rfl rfl ?_
    refine zp_const (pc := 10) hx hb (zd_X9_copyFrom (10, .bipush 64, 2, 0, []) (List.mem_of_getElem? (i := 6) rfl)) rfl rfl ?_
    refine zp_copy (n := 64) (pc := 12) (idx := 62) (T0 := zt_types.getD 42 (0, 0, 0, [])) (T := zt_types.getD 103 (0, 0, 0, [])) hx hb hE hw (eff := zk_Ke zK_3203) rfl (rm := zk_Kr zK_3203) rfl (zd_X9_copyFrom (12, .invokestatic 62, 3, 0, []) (List.mem_of_getElem? (i := 7) rfl)) (j := 1) rfl rfl rfl rfl rfl qr2 qr rfl (Nat.le_of_ble_eq_true rfl) (Nat.le_of_ble_eq_true rfl) (by decide) (fun _ _ => rfl) ⟨by decide, by decide⟩ (by decide) (Or.inr ⟨by decide, by decide⟩) rfl ?_
    intro F1 H1 locs1 ls1 hF1 hI1 hL1 hkL1 hkS1
    have hne : r ≠ r2 := zp_pne qr qr2 (by decide)
    have g0 : zp_n F1 a 0 = (r : Int) := by rw [hF1]; exact (zp_cp_ne (Or.inr (by decide))).trans hr
    have g1 : zp_n F1 b 0 = (r2 : Int) := by rw [hF1]; exact (zp_cp_ne (Or.inr (by decide))).trans hr2
    have gr : ∀ j, j < 64 → zp_n F1 r (2000 + j) = zp_n G0 r2 (2000 + j) := fun j hj => by rw [hF1]; exact zp_cp_eq hj
    have gb : ∀ x, x ≠ r → ∀ k, zp_n F1 x k = zp_n G0 x k := fun x hx k => by rw [hF1]; exact zp_cp_ne (Or.inl hx)
    obtain ⟨i1, i2, i3, i4, i5⟩ := hI1
    have l0 : ls1[0]? = some (.val (.ref a)) := by
      have := hL1.2.2 (0, zk_mk 2 (a : Int)) (List.mem_cons_self)
      rw [zp_ref] at this
      exact this
    have l1 : ls1[1]? = some (.val (.ref b)) := by
      have := hL1.2.2 (1, zk_mk 2 (b : Int)) (List.mem_cons_of_mem _ List.mem_cons_self)
      rw [zp_ref] at this
      exact this
    have vr : ∀ (V : List zk_F) (N : List Int) (x y t : Nat), V[x]? = some (2, t, 0, 0) → N[x]? = some (y : Int) → zk_sv V N (x, 0) (.ref y) := fun V N x y t e1 e2 => ⟨(2, t, 0, 0), (y : Int), e1, e2, trivial, by rw [Int.add_zero, zp_ref]⟩
    have hGz : zk_G w s (P0, F1, [(a : Int), (b : Int)], zE_cr3203, [], zK_3203.2.2.1, X) zk_cr3203 [0, 0, -1, (a : Int), (b : Int), (r : Int), (r2 : Int)] P0 F1 H1 locs1 ls1 := by
      refine ⟨⟨⟨by decide, by decide, by decide, by decide⟩, ⟨by decide, by decide, by decide, by decide⟩, ⟨by decide, by decide, fun _ => by decide, fun h => absurd h (by decide)⟩, zp_o2 hp, zp_o2 hpb, zp_o2 qr, zp_o2 qr2, trivial⟩, fun q h => absurd h List.not_mem_nil, fun q hq => ?_, trivial, i1.strong, ⟨[(0, .ref a), (1, .ref b)], ⟨hL1.1, hL1.2.1, List.forall_mem_cons.mpr ⟨l0, List.forall_mem_cons.mpr ⟨l1, fun q h => absurd h List.not_mem_nil⟩⟩⟩, ⟨rfl, vr _ _ _ _ 93 rfl rfl⟩, ⟨rfl, vr _ _ _ _ 10 rfl rfl⟩, trivial⟩, fun _ _ h => h, fun _ _ _ => zk_same.rf, i4, fun q hq => ?_, fun q h => absurd h List.not_mem_nil, fun i n h => by simp at h, i5⟩
      · have hq : q ∈ [((3 : Nat), (0 : Nat), ((5, 0) : zk_S)), (4, 0, (6, 0))] := hq
        simp only [List.mem_cons, List.not_mem_nil, or_false] at hq
        rcases hq with rfl | rfl
        · exact ⟨(a : Int), 93, .ref r, rfl, by show (0 : Int) ≤ a; omega, by rw [Int.toNat_natCast]; exact hp, by rw [Int.toNat_natCast]; exact zh_rdn i1 hw hp (show zp_fd 93 0 = some (9, 2, 103, 0, 0) from rfl) g0, vr _ _ _ _ 103 rfl rfl⟩
        · exact ⟨(b : Int), 10, .ref r2, rfl, by show (0 : Int) ≤ b; omega, by rw [Int.toNat_natCast]; exact hpb, by rw [Int.toNat_natCast]; exact zh_rdn i1 hw hpb (show zp_fd 10 0 = some (9, 2, 42, 0, 0) from rfl) g1, vr _ _ _ _ 42 rfl rfl⟩
      · have hq : q ∈ [((0 : Nat), (3 : Nat)), (1, 4)] := hq
        simp only [List.mem_cons, List.not_mem_nil, or_false] at hq
        rcases hq with rfl | rfl
        · exact ⟨(a : Int), rfl, rfl⟩
        · exact ⟨(b : Int), rfl, rfl⟩
    refine zh_seg (E := (zt_types, [(2, 9, 9, 0, 18), (8, 62, 0, 0, 0), (2, 68, 9, 1, 0), (2, 15, 9, 2, 18), (2, 71, 9, 3, 0), (2, 18, 9, 4, 18), (2, 21, 9, 5, 18), (2, 24, 9, 6, 18), (2, 27, 9, 7, 18), (2, 30, 9, 8, 18), (2, 74, 9, 9, 0), (2, 33, 9, 10, 18), (2, 36, 9, 11, 18), (2, 39, 9, 12, 18), (2, 44, 9, 13, 18), (2, 77, 9, 14, 0), (2, 48, 9, 15, 0), (2, 52, 9, 16, 0), (2, 80, 9, 17, 0), (2, 58, 9, 18, 18)], zt_dv, [zK_161], [80], [(0, 83, 80)], zK_3203)) (eff := zE_cr3203) (st := []) (AL := zA_cr3203) (AN := zR_cr3203 ++ zA_cr3203) (fuel := 566) hx hb hE0 hlen (zq_note_ok zd_X9_copyFrom []) (by decide +kernel) (fun _ _ h => h) hGz trivial (fun A hA => ?_)
    rcases List.mem_append.mp hA with hA | hA
    · refine Or.inr (fun N' P' F' H' locs' ls' sv' hG' hS' => ?_)
      obtain rfl := List.mem_singleton.mp hA
      have hef2 : zk_ef zE_cr3203 [(a : Int), (b : Int)] P0 F1 F' := hG'.2.2.2.2.2.2.2.1
      have hfr2 := zp_ef_fr hef2
      have hefK : zk_ef (zk_Ke zK_3203) [(a : Int), (b : Int)] P0 G0 F' := by
        intro x t hxt
        exact (i3 x t hxt).trans ((hef2 x t hxt).mono (fun k hk => by
          obtain ⟨q, q1, q2, q3, q4⟩ := hk
          exact ⟨q, (show ∀ e ∈ zE_cr3203, e ∈ zk_Ke zK_3203 by decide +kernel) q q1, q2, q3, q4⟩))
      have hG2 := zh_back (ps := [(a : Int), (b : Int)]) (eff := zk_Ke zK_3203) (pa := []) hG' (fun _ _ h => h) hefK (fun q h => absurd h List.not_mem_nil)
      obtain ⟨⟨c1, c2, c3⟩, c4, c5, c6, c7, c8, c9, c10, c11, c12, c13, c14, c15, c16, c17, c18, c19, y1, y2, y3⟩ := hE1
      cases sv' with
      | cons v rest => exact hS'.elim
      | nil =>
        have hBn : zB_cr 103 42 P0 G0 [(a : Int), (b : Int)] P' F' 0 := by
          intro r' r2' e0 q0 e1 q1
          have e0 : zp_n G0 a 0 = (r' : Int) := e0
          have e1 : zp_n G0 b 0 = (r2' : Int) := e1
          obtain rfl : r = r' := by omega
          obtain rfl : r2 = r2' := by omega
          exact ⟨fun j hj => (zp_nc hfr2 qr rfl _).trans (gr j hj), fun x hx hxr k => (zp_nc hfr2 hx rfl _).trans (gb x hxr k)⟩
        have fin : ∀ t : State, t.heap = H' → s.WarmedH t.vm → zk_postX w zK_3203 (zB_cr 103 42) P0 G0 [(a : Int), (b : Int)] s t (.returned none) := fun t ht hWm => zk_fin (u := (P0, G0, [(a : Int), (b : Int)], zk_Ke zK_3203, [], zK_3203.2.2.1, X)) (K := zK_3203) (al := (none, [])) (rn := 0) (X0 := fun _ => True) c8 c7 rfl c19 hG2 (by unfold zk_rct; exact if_neg (by decide)) (List.mem_singleton.mpr rfl) (fun f h => by cases h) (fun q h => absurd h List.not_mem_nil) (Or.inl ⟨by decide, hBn⟩) t ht hWm
        have hr9 : meth.sig.returnType = none := c18.2.1.trans rfl
        refine W.widen (Nat.zero_le (zk_Kr zK_3203).2.2.1) (Nat.zero_le (zk_Kr zK_3203).2.2.2) ?_
        rw [hQ]
        exact W.vret hx hb hr9 (fun t ht hWm => fin t ht hWm) hG'.2.2.2.2.2.2.2.2.1.2.2 (by decide +kernel) c18.1
    · exact Or.inl hA
  exact hJ G0 H locs ls rfl ⟨zp_wt.of h5, h7, h8, h9, h13⟩ h6a (zp_ks (by decide +kernel) hps) (fun q h => absurd h List.not_mem_nil)
def zE_cr3204 : List (Nat × Nat × Nat) := [(10, 1, 1), (43, 1001, 0), (10, 3, 1), (44, 1001, 0), (45, 1001, 0), (46, 1001, 0), (47, 1001, 0), (48, 1001, 0), (10, 9, 1), (49, 1001, 0), (50, 1001, 0), (51, 1001, 0), (52, 1001, 0), (10, 14, 1), (10, 15, 1), (10, 16, 1), (10, 17, 1), (17, 1001, 0), (18, 1001, 0), (19, 1001, 0), (2, 3, 0), (2, 4, 0), (2, 5, 0), (2, 6, 0)]
def zA_cr3204 : List zk_An := [(176, ([(0, 0, 0, 0), (1, 0, 0, 0), (2, 0, (-1), (-1)), (2, 10, 0, 0), (2, 93, 0, 0), (0, 0, 0, 6), (2, 51, 0, 0), (2, 50, 0, 0), (2, 49, 0, 0), (0, 0, 0, 8), (2, 48, 0, 0), (2, 47, 0, 0), (2, 46, 0, 0), (2, 45, 0, 0), (2, 44, 0, 0), (0, 0, 0, 10), (2, 43, 0, 0), (0, 0, 0, 6), (2, 42, 0, 0), (2, 51, 0, 0), (2, 50, 0, 0), (2, 49, 0, 0), (2, 48, 0, 0), (2, 47, 0, 0), (2, 46, 0, 0), (2, 45, 0, 0), (2, 44, 0, 0), (2, 43, 0, 0), (2, 103, 0, 0)], [], [(3, 12, (6, 0)), (3, 11, (7, 0)), (3, 10, (8, 0)), (3, 9, (9, 0)), (3, 8, (10, 0)), (3, 7, (11, 0)), (3, 6, (12, 0)), (3, 5, (13, 0)), (3, 4, (14, 0)), (3, 3, (15, 0)), (3, 2, (16, 0)), (3, 1, (17, 0)), (3, 0, (18, 0)), (4, 12, (19, 0)), (4, 11, (20, 0)), (4, 10, (21, 0)), (4, 9, (9, 0)), (4, 8, (22, 0)), (4, 7, (23, 0)), (4, 6, (24, 0)), (4, 5, (25, 0)), (4, 4, (26, 0)), (4, 3, (15, 0)), (4, 2, (27, 0)), (4, 1, (17, 0)), (4, 0, (28, 0))], [], [(2, (5, 0)), (0, (3, 0)), (1, (4, 0))], [(0, 3), (1, 4)], []), [], 0, 0, (6, [((-1), 5)]))]
def zR_cr3204 : List zk_An := [(243, ([(0, 0, 0, 0), (1, 0, 0, 0), (2, 0, (-1), (-1)), (2, 10, 0, 0)], [], [], [], [], [(0, 3)], []), [], 0, 0, ((-1), []))]
def zk_cr3204 : zk_C := ([(0, 0, 0, 0), (1, 0, 0, 0), (2, 0, (-1), (-1)), (2, 10, 0, 0), (2, 93, 0, 0), (2, 42, 0, 0), (2, 103, 0, 0)], [], [(3, 0, (5, 0)), (4, 0, (6, 0))], [], [(0, (3, 0)), (1, (4, 0))], [(0, 3), (1, 4)], [])
theorem zX_cr3204 {l : Launch} {w : zk_W} (hW : zh_W w) : zk_metX l w zt_dv zt_TB zK_3204 zk_tA (zB_cr 42 103) ∧ zk_cok w zt_TB zK_3204 := by
  have hw := hW.1
  refine zh_methH hW (lk := [(2, 9, 9, 0, 18), (8, 62, 0, 0, 0), (2, 68, 9, 1, 0), (2, 15, 9, 2, 18), (2, 71, 9, 3, 0), (2, 18, 9, 4, 18), (2, 21, 9, 5, 18), (2, 24, 9, 6, 18), (2, 27, 9, 7, 18), (2, 30, 9, 8, 18), (2, 74, 9, 9, 0), (2, 33, 9, 10, 18), (2, 36, 9, 11, 18), (2, 39, 9, 12, 18), (2, 44, 9, 13, 18), (2, 77, 9, 14, 0), (2, 48, 9, 15, 0), (2, 52, 9, 16, 0), (2, 80, 9, 17, 0), (2, 58, 9, 18, 18)]) (KS := [zK_161]) (km := [80]) (lc := [(0, 83, 80)]) (pl := 1322) (by decide) (by decide +kernel) (by decide +kernel) (by
    intro K h
    rw [List.mem_singleton.mp h]
    exact zq_161 hW) (fun p e R s m args below meth c Q P0 G0 ps X hx hb hA hps hE hQ H locs ls hG => ?_)
  have hlen := (zk_all2_len hps).symm
  have hps0 := hps
  obtain ⟨p0, p1, rfl, k0, k1⟩ := zp_ps2 hps0
  obtain ⟨a, rfl, hp⟩ := zp_this k0
  obtain ⟨b, rfl, hpb⟩ := zp_this k1
  have hE0 := hE
  have hE1 := hE [] P0 G0 (zk_Ke zK_3204) (zk_Ka zK_3204) [(a : Int), (b : Int)] (zk_Kp zK_3204) hlen (fun _ _ h => h)
  obtain ⟨h1, h2, h3, h4, h5, ⟨lv, h6a, h6b⟩, h7, h8, h9, h10, h11, h12, h13⟩ := hG
  have hlv := zp_L0_ok (fs := zk_Kp zK_3204) (ps := [(a : Int), (b : Int)]) (i := 0) (j := 3) rfl (fun t f h => by
    show (zk_V0 ++ zk_Kp zK_3204)[3 + t]? = some f
    rw [List.getElem?_append_right (by show 3 ≤ 3 + t; omega)]
    show (zk_Kp zK_3204)[3 + t - 3]? = some f
    rw [show 3 + t - 3 = t by omega]
    exact h) (fun t n h => by
    rw [List.getElem?_append_right (by show 3 ≤ 3 + t; omega)]
    show [(a : Int), (b : Int)][3 + t - 3]? = some n
    rw [show 3 + t - 3 = t by omega]
    exact h) h6b
  rw [hlv] at h6a
  have hJ : zp_J p l e R s m args below meth c Q w (P0, G0, [(a : Int), (b : Int)], zk_Ke zK_3204, [], zK_3204.2.2.1, X) [] 0 [(0, 2, (a : Int)), (1, 2, (b : Int))] [] P0 (zp_n G0) := by
    have hE : zk_ctx l R s m args meth c w (P0, G0, [(a : Int), (b : Int)], zk_Ke zK_3204, [], zK_3204.2.2.1, X) zt_TB "WoundTown$Town" zt_TB zt_mn (zt_types, [(2, 9, 9, 0, 18), (8, 62, 0, 0, 0), (2, 68, 9, 1, 0), (2, 15, 9, 2, 18), (2, 71, 9, 3, 0), (2, 18, 9, 4, 18), (2, 21, 9, 5, 18), (2, 24, 9, 6, 18), (2, 27, 9, 7, 18), (2, 30, 9, 8, 18), (2, 74, 9, 9, 0), (2, 33, 9, 10, 18), (2, 36, 9, 11, 18), (2, 39, 9, 12, 18), (2, 44, 9, 13, 18), (2, 77, 9, 14, 0), (2, 48, 9, 15, 0), (2, 52, 9, 16, 0), (2, 80, 9, 17, 0), (2, 58, 9, 18, 18)], zt_dv, [zK_161], [80], [(0, 83, 80)], zK_3204) := hE1
    refine zp_kn (k := 0) (a := a) hw (show zp_fd 10 0 = some (9, 2, 42, 0, 0) from rfl) rfl hp (fun hkr => ?_)
    obtain ⟨r, hr, qr⟩ := zp_this hkr
    refine zp_kn (k := 0) (a := b) hw (show zp_fd 93 0 = some (9, 2, 103, 0, 0) from rfl) rfl hpb (fun hkr2 => ?_)
    obtain ⟨r2, hr2, qr2⟩ := zp_this hkr2
    refine zp_load (pc := 0) hx hb (zd_X9_copyFrom (0, .aload_n 1, 1, 0, []) (List.mem_of_getElem? (i := 0) rfl)) rfl (j := 1) rfl ?_
    refine zp_getf (n := (r2 : Int)) (pc := 1) hx hb hE hw (zd_X9_copyFrom (1, .getfield 9, 3, 0, []) (List.mem_of_getElem? (i := 1) rfl)) (j := 0) rfl rfl rfl hpb hr2 ?_
    refine zp_const (pc := 4) hx hb (zd_X9_copyFrom (4, .iconst 0, 1, 0, []) (List.mem_of_getElem? (i := 2) rfl)) rfl rfl ?_
    refine zp_load (pc := 5) hx hb (zd_X9_copyFrom (5, .aload_n 0, 1, 0, []) (List.mem_of_getElem? (i := 3) rfl)) rfl (j := 0) rfl ?_
    refine zp_getf (n := (r : Int)) (pc := 6) hx hb hE hw (zd_X9_copyFrom (6, .getfield 9, 3, 0, []) (List.mem_of_getElem? (i := 4) rfl)) (j := 0) rfl rfl rfl hp hr ?_
    refine zp_const (pc := 9) hx hb (zd_X9_copyFrom (9, .iconst 0, 1, 0, []) (List.mem_of_getElem? (i := 5) rfl)) rfl rfl ?_
    refine zp_const (pc := 10) hx hb (zd_X9_copyFrom (10, .bipush 64, 2, 0, []) (List.mem_of_getElem? (i := 6) rfl)) rfl rfl ?_
    refine zp_copy (n := 64) (pc := 12) (idx := 62) (T0 := zt_types.getD 103 (0, 0, 0, [])) (T := zt_types.getD 42 (0, 0, 0, [])) hx hb hE hw (eff := zk_Ke zK_3204) rfl (rm := zk_Kr zK_3204) rfl (zd_X9_copyFrom (12, .invokestatic 62, 3, 0, []) (List.mem_of_getElem? (i := 7) rfl)) (j := 1) rfl rfl rfl rfl rfl qr2 qr rfl (Nat.le_of_ble_eq_true rfl) (Nat.le_of_ble_eq_true rfl) (by decide) (fun _ _ => rfl) ⟨by decide, by decide⟩ (by decide) (Or.inr ⟨by decide, by decide⟩) rfl ?_
    intro F1 H1 locs1 ls1 hF1 hI1 hL1 hkL1 hkS1
    have hne : r ≠ r2 := zp_pne qr qr2 (by decide)
    have g0 : zp_n F1 a 0 = (r : Int) := by rw [hF1]; exact (zp_cp_ne (Or.inr (by decide))).trans hr
    have g1 : zp_n F1 b 0 = (r2 : Int) := by rw [hF1]; exact (zp_cp_ne (Or.inr (by decide))).trans hr2
    have gr : ∀ j, j < 64 → zp_n F1 r (2000 + j) = zp_n G0 r2 (2000 + j) := fun j hj => by rw [hF1]; exact zp_cp_eq hj
    have gb : ∀ x, x ≠ r → ∀ k, zp_n F1 x k = zp_n G0 x k := fun x hx k => by rw [hF1]; exact zp_cp_ne (Or.inl hx)
    obtain ⟨i1, i2, i3, i4, i5⟩ := hI1
    have l0 : ls1[0]? = some (.val (.ref a)) := by
      have := hL1.2.2 (0, zk_mk 2 (a : Int)) (List.mem_cons_self)
      rw [zp_ref] at this
      exact this
    have l1 : ls1[1]? = some (.val (.ref b)) := by
      have := hL1.2.2 (1, zk_mk 2 (b : Int)) (List.mem_cons_of_mem _ List.mem_cons_self)
      rw [zp_ref] at this
      exact this
    have vr : ∀ (V : List zk_F) (N : List Int) (x y t : Nat), V[x]? = some (2, t, 0, 0) → N[x]? = some (y : Int) → zk_sv V N (x, 0) (.ref y) := fun V N x y t e1 e2 => ⟨(2, t, 0, 0), (y : Int), e1, e2, trivial, by rw [Int.add_zero, zp_ref]⟩
    have hGz : zk_G w s (P0, F1, [(a : Int), (b : Int)], zE_cr3204, [], zK_3204.2.2.1, X) zk_cr3204 [0, 0, -1, (a : Int), (b : Int), (r : Int), (r2 : Int)] P0 F1 H1 locs1 ls1 := by
      refine ⟨⟨⟨by decide, by decide, by decide, by decide⟩, ⟨by decide, by decide, by decide, by decide⟩, ⟨by decide, by decide, fun _ => by decide, fun h => absurd h (by decide)⟩, zp_o2 hp, zp_o2 hpb, zp_o2 qr, zp_o2 qr2, trivial⟩, fun q h => absurd h List.not_mem_nil, fun q hq => ?_, trivial, i1.strong, ⟨[(0, .ref a), (1, .ref b)], ⟨hL1.1, hL1.2.1, List.forall_mem_cons.mpr ⟨l0, List.forall_mem_cons.mpr ⟨l1, fun q h => absurd h List.not_mem_nil⟩⟩⟩, ⟨rfl, vr _ _ _ _ 10 rfl rfl⟩, ⟨rfl, vr _ _ _ _ 93 rfl rfl⟩, trivial⟩, fun _ _ h => h, fun _ _ _ => zk_same.rf, i4, fun q hq => ?_, fun q h => absurd h List.not_mem_nil, fun i n h => by simp at h, i5⟩
      · have hq : q ∈ [((3 : Nat), (0 : Nat), ((5, 0) : zk_S)), (4, 0, (6, 0))] := hq
        simp only [List.mem_cons, List.not_mem_nil, or_false] at hq
        rcases hq with rfl | rfl
        · exact ⟨(a : Int), 10, .ref r, rfl, by show (0 : Int) ≤ a; omega, by rw [Int.toNat_natCast]; exact hp, by rw [Int.toNat_natCast]; exact zh_rdn i1 hw hp (show zp_fd 10 0 = some (9, 2, 42, 0, 0) from rfl) g0, vr _ _ _ _ 42 rfl rfl⟩
        · exact ⟨(b : Int), 93, .ref r2, rfl, by show (0 : Int) ≤ b; omega, by rw [Int.toNat_natCast]; exact hpb, by rw [Int.toNat_natCast]; exact zh_rdn i1 hw hpb (show zp_fd 93 0 = some (9, 2, 103, 0, 0) from rfl) g1, vr _ _ _ _ 103 rfl rfl⟩
      · have hq : q ∈ [((0 : Nat), (3 : Nat)), (1, 4)] := hq
        simp only [List.mem_cons, List.not_mem_nil, or_false] at hq
        rcases hq with rfl | rfl
        · exact ⟨(a : Int), rfl, rfl⟩
        · exact ⟨(b : Int), rfl, rfl⟩
    refine zh_seg (E := (zt_types, [(2, 9, 9, 0, 18), (8, 62, 0, 0, 0), (2, 68, 9, 1, 0), (2, 15, 9, 2, 18), (2, 71, 9, 3, 0), (2, 18, 9, 4, 18), (2, 21, 9, 5, 18), (2, 24, 9, 6, 18), (2, 27, 9, 7, 18), (2, 30, 9, 8, 18), (2, 74, 9, 9, 0), (2, 33, 9, 10, 18), (2, 36, 9, 11, 18), (2, 39, 9, 12, 18), (2, 44, 9, 13, 18), (2, 77, 9, 14, 0), (2, 48, 9, 15, 0), (2, 52, 9, 16, 0), (2, 80, 9, 17, 0), (2, 58, 9, 18, 18)], zt_dv, [zK_161], [80], [(0, 83, 80)], zK_3204)) (eff := zE_cr3204) (st := []) (AL := zA_cr3204) (AN := zR_cr3204 ++ zA_cr3204) (fuel := 566) hx hb hE0 hlen (zq_note_ok zd_X9_copyFrom []) (by decide +kernel) (fun _ _ h => h) hGz trivial (fun A hA => ?_)
    rcases List.mem_append.mp hA with hA | hA
    · refine Or.inr (fun N' P' F' H' locs' ls' sv' hG' hS' => ?_)
      obtain rfl := List.mem_singleton.mp hA
      have hef2 : zk_ef zE_cr3204 [(a : Int), (b : Int)] P0 F1 F' := hG'.2.2.2.2.2.2.2.1
      have hfr2 := zp_ef_fr hef2
      have hefK : zk_ef (zk_Ke zK_3204) [(a : Int), (b : Int)] P0 G0 F' := by
        intro x t hxt
        exact (i3 x t hxt).trans ((hef2 x t hxt).mono (fun k hk => by
          obtain ⟨q, q1, q2, q3, q4⟩ := hk
          exact ⟨q, (show ∀ e ∈ zE_cr3204, e ∈ zk_Ke zK_3204 by decide +kernel) q q1, q2, q3, q4⟩))
      have hG2 := zh_back (ps := [(a : Int), (b : Int)]) (eff := zk_Ke zK_3204) (pa := []) hG' (fun _ _ h => h) hefK (fun q h => absurd h List.not_mem_nil)
      obtain ⟨⟨c1, c2, c3⟩, c4, c5, c6, c7, c8, c9, c10, c11, c12, c13, c14, c15, c16, c17, c18, c19, y1, y2, y3⟩ := hE1
      cases sv' with
      | cons v rest => exact hS'.elim
      | nil =>
        have hBn : zB_cr 42 103 P0 G0 [(a : Int), (b : Int)] P' F' 0 := by
          intro r' r2' e0 q0 e1 q1
          have e0 : zp_n G0 a 0 = (r' : Int) := e0
          have e1 : zp_n G0 b 0 = (r2' : Int) := e1
          obtain rfl : r = r' := by omega
          obtain rfl : r2 = r2' := by omega
          exact ⟨fun j hj => (zp_nc hfr2 qr rfl _).trans (gr j hj), fun x hx hxr k => (zp_nc hfr2 hx rfl _).trans (gb x hxr k)⟩
        have fin : ∀ t : State, t.heap = H' → s.WarmedH t.vm → zk_postX w zK_3204 (zB_cr 42 103) P0 G0 [(a : Int), (b : Int)] s t (.returned none) := fun t ht hWm => zk_fin (u := (P0, G0, [(a : Int), (b : Int)], zk_Ke zK_3204, [], zK_3204.2.2.1, X)) (K := zK_3204) (al := (none, [])) (rn := 0) (X0 := fun _ => True) c8 c7 rfl c19 hG2 (by unfold zk_rct; exact if_neg (by decide)) (List.mem_singleton.mpr rfl) (fun f h => by cases h) (fun q h => absurd h List.not_mem_nil) (Or.inl ⟨by decide, hBn⟩) t ht hWm
        have hr9 : meth.sig.returnType = none := c18.2.1.trans rfl
        refine W.widen (Nat.zero_le (zk_Kr zK_3204).2.2.1) (Nat.zero_le (zk_Kr zK_3204).2.2.2) ?_
        rw [hQ]
        exact W.vret hx hb hr9 (fun t ht hWm => fin t ht hWm) hG'.2.2.2.2.2.2.2.2.1.2.2 (by decide +kernel) c18.1
    · exact Or.inl hA
  exact hJ G0 H locs ls rfl ⟨zp_wt.of h5, h7, h8, h9, h13⟩ h6a (zp_ks (by decide +kernel) hps) (fun q h => absurd h List.not_mem_nil)
