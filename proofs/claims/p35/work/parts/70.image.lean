/-! part 70: four, feed, settled, image, back -/
theorem zl_congr2 {f g : Nat → Int} {b b' : Nat} (h : zk_law f b) (he : ∀ j, j < 900 → g (b' + j) = f (b + j)) (hb : ∀ c : Nat, c < 12 → ∀ j, 3 ≤ j → j ≤ 6 → f (b + 2 + 8 * c + j) ≤ 400) : zk_law g b' := by
  have h1 : zk_law (fun x => f (x - b' + b)) b' := by
    intro c hc hn
    have e : ∀ j, (fun x => f (x - b' + b)) (b' + j) = f (b + j) := fun j => by show f (b' + j - b' + b) = f (b + j); congr 1; omega
    have e' : ∀ x y, x = y + b' → (fun x => f (x - b' + b)) x = f (b + y) := fun x y hxy => by show f (x - b' + b) = f (b + y); congr 1; omega
    have en : (c : Int) < f (b + 1) := by rw [← e 1]; exact hn
    obtain ⟨h1, h2⟩ := h c hc en
    have q : ∀ i, (fun x => f (x - b' + b)) (b' + 2 + 8 * c + i) = f (b + 2 + 8 * c + i) := fun i => by rw [e' (b' + 2 + 8 * c + i) (2 + 8 * c + i) (by omega)]; congr 1; omega
    have q0 : (fun x => f (x - b' + b)) (b' + 2 + 8 * c) = f (b + 2 + 8 * c) := q 0
    have k1 : (fun k => (fun x => f (x - b' + b)) (b' + 98 + 2 * k)) = fun k => f (b + 98 + 2 * k) := funext fun k => by rw [e' (b' + 98 + 2 * k) (98 + 2 * k) (by omega)]; congr 1; omega
    have k2 : (fun k => (fun x => f (x - b' + b)) (b' + 98 + 2 * k + 1)) = fun k => f (b + 98 + 2 * k + 1) := funext fun k => by rw [e' (b' + 98 + 2 * k + 1) (98 + 2 * k + 1) (by omega)]; congr 1; omega
    rw [q 5, q 6, q0, q 3, q 4, k1, k2]
    exact ⟨h1, h2⟩
  refine zl_congr h1 (fun j hj => ?_) (fun c hc j j1 j2 => ?_)
  · rw [he j hj]
    show f (b + j) = f (b' + j - b' + b)
    congr 1
    omega
  · have := hb c hc j j1 j2
    show f (b' + 2 + 8 * c + j - b' + b) ≤ 400
    rw [show b' + 2 + 8 * c + j - b' + b = b + 2 + 8 * c + j by omega]
    exact this
theorem zl_cp {f g : Nat → Int} {b b' : Nat} (h : zk_laws f b) (he : ∀ j, j < 5580 → g (b' + j) = f (b + j)) (hb : ∀ j, j < 5580 → ∀ P : Nat → Option Nat, zk_ok P (zk_fj zl_T j) (f (b + j)) ∨ True) (hb2 : ∀ j, j < 5580 → ∃ P : Nat → Option Nat, zk_ok P (zk_fj zl_T j) (f (b + j))) : zk_laws g b' := by
  intro k hk
  refine zl_congr2 (h k hk) (fun j hj => ?_) (fun c hc j j1 j2 => ?_)
  · have := he (180 + 900 * k + j) (by omega)
    rw [show b' + 180 + 900 * k + j = b' + (180 + 900 * k + j) by omega, show b + 180 + 900 * k + j = b + (180 + 900 * k + j) by omega]
    exact this
  · obtain ⟨x, lo, hi, y1, y2, -⟩ := zl_rg3 hk hc (j := j) (by omega)
    obtain ⟨P, hz⟩ := hb2 (180 + 900 * k + 2 + (8 * c + j)) (by omega)
    rw [y1] at hz
    have h1 := (zp_int hz).2
    have h2 := (y2 j1 j2).2
    rw [show b + 180 + 900 * k + 2 + 8 * c + j = b + (180 + 900 * k + 2 + (8 * c + j)) by omega]
    omega
def zl_T2 : zk_T := zt_types.getD 60 (0, 0, 0, [])
theorem zl_fj2 {j i k : Nat} (hi : i < 5580) (hj : j = 5580 * k + i) : zk_fj zl_T2 j = zk_fj zl_T i := by
  subst hj
  rw [zl_fj hi]
  show (if (zk_f0 zl_T2).1 = 9 then zk_rgn zl_T2.2.2.2.tail ((5580 * k + i) % (zk_f0 zl_T2).2.1) else zk_f0 zl_T2) = _
  rw [if_pos (by decide +kernel), show (zk_f0 zl_T2).2.1 = 5580 from by decide +kernel, show (5580 * k + i) % 5580 = i by omega, show zl_T2.2.2.2.tail = zl_rs from by decide +kernel]
theorem zl_kd2 (j : Nat) : (zk_fj zl_T2 j).1 = 0 := by
  rw [zl_fj2 (i := j % 5580) (k := j / 5580) (by omega) (by omega)]
  exact zl_kd _
def zK_fo : zk_K := (zt_mn 206, prog_14_method_32_code, 3, (Option.none : Option Jvm.ClassFile.FieldType), 1, 12, [(2, 13, 0, 0), (0, 0, (-2147483648), 2147483647)], [(none, [])], [(13, 13, 0), (66, 1001, 0)], (0, 0, 0, 0))
def zφ_fo : (Nat → Option Nat) → (Nat → Nat → Int) → List Int → Prop := fun _ G ps => G (zp_0 ps) 13 ≤ 396
def zψ_fo : (Nat → Option Nat) → (Nat → Nat → Int) → List Int → (Nat → Option Nat) → (Nat → Nat → Int) → Int → Prop := fun P G ps P' G' rn => P' = P ∧ G' (zp_0 ps) 13 = G (zp_0 ps) 13 + 4
theorem zX_fo {l : Launch} {w : zk_W} (hW : zh_W w) : zk_metX l w zt_dv zt_TB zK_fo (zp_A zφ_fo) (zp_B zψ_fo) ∧ zk_cok w zt_TB zK_fo := by
  refine zp_meth hW (pl := 1660) rfl (by decide +kernel) (fun p e R s m args below meth c Q u hx hb hE hQ hU5 heff hnL hok hφ => ?_)
  have hw := hW.1
  obtain ⟨p0, p1, hps, k0, k1⟩ := zp_ps2 hok
  obtain ⟨a, rfl, hp⟩ := zp_this k0
  have hrm : zk_Kr (zk_ev (zp_E zK_fo)) = zk_Kr zK_fo := rfl
  rw [hps] at hφ ⊢
  have hi1 := zp_int k1
  have hφ : zp_n u.2.1 a 13 ≤ 396 := hφ
  show zp_J p l e R s m args below meth c Q w u [] 0 [(0, 2, (a : Int)), (1, 0, p1)] [] u.1 (zp_n u.2.1)
  refine zp_kn (k := 12) (a := a) hw (show zp_fd 13 12 = some (12, 2, 66, 0, 0) from rfl) rfl hp (fun hk12 => ?_)
  obtain ⟨b12, hb12, hq12⟩ := zp_this hk12
  refine zp_kn (k := 13) (a := a) hw (show zp_fd 13 13 = some (12, 0, 0, 0, 400) from rfl) rfl hp (fun hk13 => ?_)
  obtain ⟨tp, htp⟩ := zp_nat (zp_int hk13).1
  have htpb := zp_int hk13
  rw [htp] at htpb
  rw [htp] at hφ
  refine zp_const (pc := 0) hx hb (zd_X12_four (0, .bipush 24, 2, 0, []) (List.mem_of_getElem? (i := 0) rfl)) rfl rfl ?_
  refine zp_store (L' := [(2, 0, 24), (0, 2, (a : Int)), (1, 0, p1)]) (pc := 2) hx hb hnL (zd_X12_four (2, .istore_n 2, 1, 0, []) (List.mem_of_getElem? (i := 1) rfl)) rfl rfl rfl ?_
  refine zp_load (pc := 3) hx hb (zd_X12_four (3, .iload_n 2, 1, 0, []) (List.mem_of_getElem? (i := 2) rfl)) rfl (j := 0) rfl ?_
  refine zp_if (pc := 4) (tgt := 39) hx hb (zd_X12_four (4, .ifCond .lt 35, 3, 0, []) (List.mem_of_getElem? (i := 3) rfl)) rfl (fun (hc185 : 24 < 0) => ?_) (fun (hc185 : ¬ (24 < 0)) => ?_)
  · exfalso
    omega
  · refine zp_load (pc := 7) hx hb (zd_X12_four (7, .aload_n 0, 1, 0, []) (List.mem_of_getElem? (i := 4) rfl)) rfl (j := 1) rfl ?_
    refine zp_getf (n := (b12 : Int)) (pc := 8) hx hb hE hw (zd_X12_four (8, .getfield 35, 3, 0, []) (List.mem_of_getElem? (i := 5) rfl)) (j := 30) rfl rfl rfl hp hb12 ?_
    refine zp_load (pc := 11) hx hb (zd_X12_four (11, .aload_n 0, 1, 0, []) (List.mem_of_getElem? (i := 6) rfl)) rfl (j := 1) rfl ?_
    refine zp_getf (n := (tp : Int)) (pc := 12) hx hb hE hw (zd_X12_four (12, .getfield 228, 3, 0, []) (List.mem_of_getElem? (i := 7) rfl)) (j := 31) rfl rfl rfl hp htp ?_
    refine zp_load (pc := 15) hx hb (zd_X12_four (15, .iload_n 1, 1, 0, []) (List.mem_of_getElem? (i := 8) rfl)) rfl (j := 2) rfl ?_
    refine zp_load (pc := 16) hx hb (zd_X12_four (16, .iload_n 2, 1, 0, []) (List.mem_of_getElem? (i := 9) rfl)) rfl (j := 0) rfl ?_
    refine zp_bin (o := 7) (la := -2147483648) (ha := 2147483647) (lb := 24) (hb' := 24) (pc := 17) hx hb (zd_X12_four (17, .ishr, 1, 0, []) (List.mem_of_getElem? (i := 10) rfl)) rfl (fun h => absurd h (by decide)) (by omega) (by omega) (by omega) (by omega) (fun x186 r_x186 l_x186 h_x186 => ?_)
    have i_x186 := zp_rg0 r_x186
    refine zp_const (pc := 18) hx hb (zd_X12_four (18, .sipush 255, 3, 0, []) (List.mem_of_getElem? (i := 11) rfl)) rfl rfl ?_
    refine zp_bin (o := 3) (la := -2147483648) (ha := 2147483647) (lb := 255) (hb' := 255) (pc := 21) hx hb (zd_X12_four (21, .iand, 1, 0, []) (List.mem_of_getElem? (i := 12) rfl)) rfl (fun h => absurd h (by decide)) (by omega) (by omega) (by omega) (by omega) (fun x187 r_x187 l_x187 h_x187 => ?_)
    have i_x187 := zp_rg0 r_x187
    have j_x187 : 0 ≤ x187 ∧ x187 ≤ 255 := ⟨l_x187, h_x187⟩
    refine zp_iast (j := tp) (pc := 22) hx hb hw heff (zd_X12_four (22, .iastore, 1, 0, []) (List.mem_of_getElem? (i := 13) rfl)) (show zp_ia 1 66 = some (400, 0, 0, 0, 255) from rfl) hq12 (by omega) (by omega) (zp_o0 (by omega) (by omega) (by omega) (by omega)) rfl ?_
    refine zp_load (pc := 23) hx hb (zd_X12_four (23, .aload_n 0, 1, 0, []) (List.mem_of_getElem? (i := 14) rfl)) rfl (j := 1) rfl ?_
    refine zp_dup (pc := 24) hx hb (zd_X12_four (24, .dup, 1, 0, []) (List.mem_of_getElem? (i := 15) rfl)) (show (2 : Nat) ≠ 1 by decide) ?_
    refine zp_getf (n := (tp : Int)) (pc := 25) hx hb hE hw (zd_X12_four (25, .getfield 228, 3, 0, []) (List.mem_of_getElem? (i := 16) rfl)) (j := 31) rfl rfl rfl hp ((zp_set_ne (Or.inl (zp_pne hp hq12 (by decide)))).trans (htp)) ?_
    refine zp_const (pc := 28) hx hb (zd_X12_four (28, .iconst 1, 1, 0, []) (List.mem_of_getElem? (i := 17) rfl)) rfl rfl ?_
    refine zp_add (n := ((tp : Int) + 1)) (pc := 29) hx hb (zd_X12_four (29, .iadd, 1, 0, []) (List.mem_of_getElem? (i := 18) rfl)) (by omega) (zp_r0 (by omega) (by omega)) ?_
    refine zp_putf (pc := 30) hx hb hE hw heff (zd_X12_four (30, .putfield 228, 3, 0, []) (List.mem_of_getElem? (i := 19) rfl)) (j := 31) rfl rfl rfl hp (zp_o0 (by omega) (by omega) (by omega) (by omega)) ?_
    refine zp_iinc (L' := [(2, 0, 16), (0, 2, (a : Int)), (1, 0, p1)]) (n := 16) (pc := 33) hx hb hnL (zd_X12_four (33, .iinc 2 (-8), 3, 0, []) (List.mem_of_getElem? (i := 20) rfl)) (j := 0) rfl (by omega) (zp_r0 (by omega) (by omega)) rfl rfl ?_
    refine zp_goto (tgt := 3) (pc := 36) hx hb (zd_X12_four (36, .goto (-33), 3, 0, []) (List.mem_of_getElem? (i := 21) rfl)) rfl ?_
    refine zp_load (pc := 3) hx hb (zd_X12_four (3, .iload_n 2, 1, 0, []) (List.mem_of_getElem? (i := 2) rfl)) rfl (j := 0) rfl ?_
    refine zp_if (pc := 4) (tgt := 39) hx hb (zd_X12_four (4, .ifCond .lt 35, 3, 0, []) (List.mem_of_getElem? (i := 3) rfl)) rfl (fun (hc188 : 16 < 0) => ?_) (fun (hc188 : ¬ (16 < 0)) => ?_)
    · exfalso
      omega
    · refine zp_load (pc := 7) hx hb (zd_X12_four (7, .aload_n 0, 1, 0, []) (List.mem_of_getElem? (i := 4) rfl)) rfl (j := 1) rfl ?_
      refine zp_getf (n := (b12 : Int)) (pc := 8) hx hb hE hw (zd_X12_four (8, .getfield 35, 3, 0, []) (List.mem_of_getElem? (i := 5) rfl)) (j := 30) rfl rfl rfl hp ((zp_set_ne (Or.inr (by decide))).trans ((zp_set_ne (Or.inl (zp_pne hp hq12 (by decide)))).trans (hb12))) ?_
      refine zp_load (pc := 11) hx hb (zd_X12_four (11, .aload_n 0, 1, 0, []) (List.mem_of_getElem? (i := 6) rfl)) rfl (j := 1) rfl ?_
      refine zp_getf (n := ((tp : Int) + 1)) (pc := 12) hx hb hE hw (zd_X12_four (12, .getfield 228, 3, 0, []) (List.mem_of_getElem? (i := 7) rfl)) (j := 31) rfl rfl rfl hp zp_set_self ?_
      refine zp_load (pc := 15) hx hb (zd_X12_four (15, .iload_n 1, 1, 0, []) (List.mem_of_getElem? (i := 8) rfl)) rfl (j := 2) rfl ?_
      refine zp_load (pc := 16) hx hb (zd_X12_four (16, .iload_n 2, 1, 0, []) (List.mem_of_getElem? (i := 9) rfl)) rfl (j := 0) rfl ?_
      refine zp_bin (o := 7) (la := -2147483648) (ha := 2147483647) (lb := 16) (hb' := 16) (pc := 17) hx hb (zd_X12_four (17, .ishr, 1, 0, []) (List.mem_of_getElem? (i := 10) rfl)) rfl (fun h => absurd h (by decide)) (by omega) (by omega) (by omega) (by omega) (fun x189 r_x189 l_x189 h_x189 => ?_)
      have i_x189 := zp_rg0 r_x189
      refine zp_const (pc := 18) hx hb (zd_X12_four (18, .sipush 255, 3, 0, []) (List.mem_of_getElem? (i := 11) rfl)) rfl rfl ?_
      refine zp_bin (o := 3) (la := -2147483648) (ha := 2147483647) (lb := 255) (hb' := 255) (pc := 21) hx hb (zd_X12_four (21, .iand, 1, 0, []) (List.mem_of_getElem? (i := 12) rfl)) rfl (fun h => absurd h (by decide)) (by omega) (by omega) (by omega) (by omega) (fun x190 r_x190 l_x190 h_x190 => ?_)
      have i_x190 := zp_rg0 r_x190
      have j_x190 : 0 ≤ x190 ∧ x190 ≤ 255 := ⟨l_x190, h_x190⟩
      refine zp_iast (j := (tp + 1)) (pc := 22) hx hb hw heff (zd_X12_four (22, .iastore, 1, 0, []) (List.mem_of_getElem? (i := 13) rfl)) (show zp_ia 1 66 = some (400, 0, 0, 0, 255) from rfl) hq12 (by omega) (by omega) (zp_o0 (by omega) (by omega) (by omega) (by omega)) rfl ?_
      refine zp_load (pc := 23) hx hb (zd_X12_four (23, .aload_n 0, 1, 0, []) (List.mem_of_getElem? (i := 14) rfl)) rfl (j := 1) rfl ?_
      refine zp_dup (pc := 24) hx hb (zd_X12_four (24, .dup, 1, 0, []) (List.mem_of_getElem? (i := 15) rfl)) (show (2 : Nat) ≠ 1 by decide) ?_
      refine zp_getf (n := ((tp : Int) + 1)) (pc := 25) hx hb hE hw (zd_X12_four (25, .getfield 228, 3, 0, []) (List.mem_of_getElem? (i := 16) rfl)) (j := 31) rfl rfl rfl hp ((zp_set_ne (Or.inl (zp_pne hp hq12 (by decide)))).trans (zp_set_self)) ?_
      refine zp_const (pc := 28) hx hb (zd_X12_four (28, .iconst 1, 1, 0, []) (List.mem_of_getElem? (i := 17) rfl)) rfl rfl ?_
      refine zp_add (n := ((tp : Int) + 2)) (pc := 29) hx hb (zd_X12_four (29, .iadd, 1, 0, []) (List.mem_of_getElem? (i := 18) rfl)) (by omega) (zp_r0 (by omega) (by omega)) ?_
      refine zp_putf (pc := 30) hx hb hE hw heff (zd_X12_four (30, .putfield 228, 3, 0, []) (List.mem_of_getElem? (i := 19) rfl)) (j := 31) rfl rfl rfl hp (zp_o0 (by omega) (by omega) (by omega) (by omega)) ?_
      refine zp_iinc (L' := [(2, 0, 8), (0, 2, (a : Int)), (1, 0, p1)]) (n := 8) (pc := 33) hx hb hnL (zd_X12_four (33, .iinc 2 (-8), 3, 0, []) (List.mem_of_getElem? (i := 20) rfl)) (j := 0) rfl (by omega) (zp_r0 (by omega) (by omega)) rfl rfl ?_
      refine zp_goto (tgt := 3) (pc := 36) hx hb (zd_X12_four (36, .goto (-33), 3, 0, []) (List.mem_of_getElem? (i := 21) rfl)) rfl ?_
      refine zp_load (pc := 3) hx hb (zd_X12_four (3, .iload_n 2, 1, 0, []) (List.mem_of_getElem? (i := 2) rfl)) rfl (j := 0) rfl ?_
      refine zp_if (pc := 4) (tgt := 39) hx hb (zd_X12_four (4, .ifCond .lt 35, 3, 0, []) (List.mem_of_getElem? (i := 3) rfl)) rfl (fun (hc191 : 8 < 0) => ?_) (fun (hc191 : ¬ (8 < 0)) => ?_)
      · exfalso
        omega
      · refine zp_load (pc := 7) hx hb (zd_X12_four (7, .aload_n 0, 1, 0, []) (List.mem_of_getElem? (i := 4) rfl)) rfl (j := 1) rfl ?_
        refine zp_getf (n := (b12 : Int)) (pc := 8) hx hb hE hw (zd_X12_four (8, .getfield 35, 3, 0, []) (List.mem_of_getElem? (i := 5) rfl)) (j := 30) rfl rfl rfl hp ((zp_set_ne (Or.inr (by decide))).trans ((zp_set_ne (Or.inl (zp_pne hp hq12 (by decide)))).trans ((zp_set_ne (Or.inr (by decide))).trans ((zp_set_ne (Or.inl (zp_pne hp hq12 (by decide)))).trans (hb12))))) ?_
        refine zp_load (pc := 11) hx hb (zd_X12_four (11, .aload_n 0, 1, 0, []) (List.mem_of_getElem? (i := 6) rfl)) rfl (j := 1) rfl ?_
        refine zp_getf (n := ((tp : Int) + 2)) (pc := 12) hx hb hE hw (zd_X12_four (12, .getfield 228, 3, 0, []) (List.mem_of_getElem? (i := 7) rfl)) (j := 31) rfl rfl rfl hp zp_set_self ?_
        refine zp_load (pc := 15) hx hb (zd_X12_four (15, .iload_n 1, 1, 0, []) (List.mem_of_getElem? (i := 8) rfl)) rfl (j := 2) rfl ?_
        refine zp_load (pc := 16) hx hb (zd_X12_four (16, .iload_n 2, 1, 0, []) (List.mem_of_getElem? (i := 9) rfl)) rfl (j := 0) rfl ?_
        refine zp_bin (o := 7) (la := -2147483648) (ha := 2147483647) (lb := 8) (hb' := 8) (pc := 17) hx hb (zd_X12_four (17, .ishr, 1, 0, []) (List.mem_of_getElem? (i := 10) rfl)) rfl (fun h => absurd h (by decide)) (by omega) (by omega) (by omega) (by omega) (fun x192 r_x192 l_x192 h_x192 => ?_)
        have i_x192 := zp_rg0 r_x192
        refine zp_const (pc := 18) hx hb (zd_X12_four (18, .sipush 255, 3, 0, []) (List.mem_of_getElem? (i := 11) rfl)) rfl rfl ?_
        refine zp_bin (o := 3) (la := -2147483648) (ha := 2147483647) (lb := 255) (hb' := 255) (pc := 21) hx hb (zd_X12_four (21, .iand, 1, 0, []) (List.mem_of_getElem? (i := 12) rfl)) rfl (fun h => absurd h (by decide)) (by omega) (by omega) (by omega) (by omega) (fun x193 r_x193 l_x193 h_x193 => ?_)
        have i_x193 := zp_rg0 r_x193
        have j_x193 : 0 ≤ x193 ∧ x193 ≤ 255 := ⟨l_x193, h_x193⟩
        refine zp_iast (j := (tp + 2)) (pc := 22) hx hb hw heff (zd_X12_four (22, .iastore, 1, 0, []) (List.mem_of_getElem? (i := 13) rfl)) (show zp_ia 1 66 = some (400, 0, 0, 0, 255) from rfl) hq12 (by omega) (by omega) (zp_o0 (by omega) (by omega) (by omega) (by omega)) rfl ?_
        refine zp_load (pc := 23) hx hb (zd_X12_four (23, .aload_n 0, 1, 0, []) (List.mem_of_getElem? (i := 14) rfl)) rfl (j := 1) rfl ?_
        refine zp_dup (pc := 24) hx hb (zd_X12_four (24, .dup, 1, 0, []) (List.mem_of_getElem? (i := 15) rfl)) (show (2 : Nat) ≠ 1 by decide) ?_
        refine zp_getf (n := ((tp : Int) + 2)) (pc := 25) hx hb hE hw (zd_X12_four (25, .getfield 228, 3, 0, []) (List.mem_of_getElem? (i := 16) rfl)) (j := 31) rfl rfl rfl hp ((zp_set_ne (Or.inl (zp_pne hp hq12 (by decide)))).trans (zp_set_self)) ?_
        refine zp_const (pc := 28) hx hb (zd_X12_four (28, .iconst 1, 1, 0, []) (List.mem_of_getElem? (i := 17) rfl)) rfl rfl ?_
        refine zp_add (n := ((tp : Int) + 3)) (pc := 29) hx hb (zd_X12_four (29, .iadd, 1, 0, []) (List.mem_of_getElem? (i := 18) rfl)) (by omega) (zp_r0 (by omega) (by omega)) ?_
        refine zp_putf (pc := 30) hx hb hE hw heff (zd_X12_four (30, .putfield 228, 3, 0, []) (List.mem_of_getElem? (i := 19) rfl)) (j := 31) rfl rfl rfl hp (zp_o0 (by omega) (by omega) (by omega) (by omega)) ?_
        refine zp_iinc (L' := [(2, 0, 0), (0, 2, (a : Int)), (1, 0, p1)]) (n := 0) (pc := 33) hx hb hnL (zd_X12_four (33, .iinc 2 (-8), 3, 0, []) (List.mem_of_getElem? (i := 20) rfl)) (j := 0) rfl (by omega) (zp_r0 (by omega) (by omega)) rfl rfl ?_
        refine zp_goto (tgt := 3) (pc := 36) hx hb (zd_X12_four (36, .goto (-33), 3, 0, []) (List.mem_of_getElem? (i := 21) rfl)) rfl ?_
        refine zp_load (pc := 3) hx hb (zd_X12_four (3, .iload_n 2, 1, 0, []) (List.mem_of_getElem? (i := 2) rfl)) rfl (j := 0) rfl ?_
        refine zp_if (pc := 4) (tgt := 39) hx hb (zd_X12_four (4, .ifCond .lt 35, 3, 0, []) (List.mem_of_getElem? (i := 3) rfl)) rfl (fun (hc194 : 0 < 0) => ?_) (fun (hc194 : ¬ (0 < 0)) => ?_)
        · exfalso
          omega
        · refine zp_load (pc := 7) hx hb (zd_X12_four (7, .aload_n 0, 1, 0, []) (List.mem_of_getElem? (i := 4) rfl)) rfl (j := 1) rfl ?_
          refine zp_getf (n := (b12 : Int)) (pc := 8) hx hb hE hw (zd_X12_four (8, .getfield 35, 3, 0, []) (List.mem_of_getElem? (i := 5) rfl)) (j := 30) rfl rfl rfl hp ((zp_set_ne (Or.inr (by decide))).trans ((zp_set_ne (Or.inl (zp_pne hp hq12 (by decide)))).trans ((zp_set_ne (Or.inr (by decide))).trans ((zp_set_ne (Or.inl (zp_pne hp hq12 (by decide)))).trans ((zp_set_ne (Or.inr (by decide))).trans ((zp_set_ne (Or.inl (zp_pne hp hq12 (by decide)))).trans (hb12))))))) ?_
          refine zp_load (pc := 11) hx hb (zd_X12_four (11, .aload_n 0, 1, 0, []) (List.mem_of_getElem? (i := 6) rfl)) rfl (j := 1) rfl ?_
          refine zp_getf (n := ((tp : Int) + 3)) (pc := 12) hx hb hE hw (zd_X12_four (12, .getfield 228, 3, 0, []) (List.mem_of_getElem? (i := 7) rfl)) (j := 31) rfl rfl rfl hp zp_set_self ?_
          refine zp_load (pc := 15) hx hb (zd_X12_four (15, .iload_n 1, 1, 0, []) (List.mem_of_getElem? (i := 8) rfl)) rfl (j := 2) rfl ?_
          refine zp_load (pc := 16) hx hb (zd_X12_four (16, .iload_n 2, 1, 0, []) (List.mem_of_getElem? (i := 9) rfl)) rfl (j := 0) rfl ?_
          refine zp_bin (o := 7) (la := -2147483648) (ha := 2147483647) (lb := 0) (hb' := 0) (pc := 17) hx hb (zd_X12_four (17, .ishr, 1, 0, []) (List.mem_of_getElem? (i := 10) rfl)) rfl (fun h => absurd h (by decide)) (by omega) (by omega) (by omega) (by omega) (fun x195 r_x195 l_x195 h_x195 => ?_)
          have i_x195 := zp_rg0 r_x195
          refine zp_const (pc := 18) hx hb (zd_X12_four (18, .sipush 255, 3, 0, []) (List.mem_of_getElem? (i := 11) rfl)) rfl rfl ?_
          refine zp_bin (o := 3) (la := -2147483648) (ha := 2147483647) (lb := 255) (hb' := 255) (pc := 21) hx hb (zd_X12_four (21, .iand, 1, 0, []) (List.mem_of_getElem? (i := 12) rfl)) rfl (fun h => absurd h (by decide)) (by omega) (by omega) (by omega) (by omega) (fun x196 r_x196 l_x196 h_x196 => ?_)
          have i_x196 := zp_rg0 r_x196
          have j_x196 : 0 ≤ x196 ∧ x196 ≤ 255 := ⟨l_x196, h_x196⟩
          refine zp_iast (j := (tp + 3)) (pc := 22) hx hb hw heff (zd_X12_four (22, .iastore, 1, 0, []) (List.mem_of_getElem? (i := 13) rfl)) (show zp_ia 1 66 = some (400, 0, 0, 0, 255) from rfl) hq12 (by omega) (by omega) (zp_o0 (by omega) (by omega) (by omega) (by omega)) rfl ?_
          refine zp_load (pc := 23) hx hb (zd_X12_four (23, .aload_n 0, 1, 0, []) (List.mem_of_getElem? (i := 14) rfl)) rfl (j := 1) rfl ?_
          refine zp_dup (pc := 24) hx hb (zd_X12_four (24, .dup, 1, 0, []) (List.mem_of_getElem? (i := 15) rfl)) (show (2 : Nat) ≠ 1 by decide) ?_
          refine zp_getf (n := ((tp : Int) + 3)) (pc := 25) hx hb hE hw (zd_X12_four (25, .getfield 228, 3, 0, []) (List.mem_of_getElem? (i := 16) rfl)) (j := 31) rfl rfl rfl hp ((zp_set_ne (Or.inl (zp_pne hp hq12 (by decide)))).trans (zp_set_self)) ?_
          refine zp_const (pc := 28) hx hb (zd_X12_four (28, .iconst 1, 1, 0, []) (List.mem_of_getElem? (i := 17) rfl)) rfl rfl ?_
          refine zp_add (n := ((tp : Int) + 4)) (pc := 29) hx hb (zd_X12_four (29, .iadd, 1, 0, []) (List.mem_of_getElem? (i := 18) rfl)) (by omega) (zp_r0 (by omega) (by omega)) ?_
          refine zp_putf (pc := 30) hx hb hE hw heff (zd_X12_four (30, .putfield 228, 3, 0, []) (List.mem_of_getElem? (i := 19) rfl)) (j := 31) rfl rfl rfl hp (zp_o0 (by omega) (by omega) (by omega) (by omega)) ?_
          refine zp_iinc (L' := [(2, 0, (-8)), (0, 2, (a : Int)), (1, 0, p1)]) (n := (-8)) (pc := 33) hx hb hnL (zd_X12_four (33, .iinc 2 (-8), 3, 0, []) (List.mem_of_getElem? (i := 20) rfl)) (j := 0) rfl (by omega) (zp_r0 (by omega) (by omega)) rfl rfl ?_
          refine zp_goto (tgt := 3) (pc := 36) hx hb (zd_X12_four (36, .goto (-33), 3, 0, []) (List.mem_of_getElem? (i := 21) rfl)) rfl ?_
          refine zp_load (pc := 3) hx hb (zd_X12_four (3, .iload_n 2, 1, 0, []) (List.mem_of_getElem? (i := 2) rfl)) rfl (j := 0) rfl ?_
          refine zp_if (pc := 4) (tgt := 39) hx hb (zd_X12_four (4, .ifCond .lt 35, 3, 0, []) (List.mem_of_getElem? (i := 3) rfl)) rfl (fun (hc197 : (-8) < 0) => ?_) (fun (hc197 : ¬ ((-8) < 0)) => ?_)
          · refine zp_vret (pc := 39) hx hb hE hQ hU5 rfl (by decide) (zd_X12_four (39, .return_, 1, 0, []) (List.mem_of_getElem? (i := 22) rfl)) (j := 0) rfl ?_
            rw [hps]
            refine ⟨rfl, ?_⟩
            show (zp_set (zp_set (zp_set (zp_set (zp_set (zp_set (zp_set (zp_set (zp_n u.2.1) b12 (2000 + tp) x187) a 13 ((tp : Int) + 1)) b12 (2000 + (tp + 1)) x190) a 13 ((tp : Int) + 2)) b12 (2000 + (tp + 2)) x193) a 13 ((tp : Int) + 3)) b12 (2000 + (tp + 3)) x196) a 13 ((tp : Int) + 4)) a 13 = zp_n u.2.1 a 13 + 4
            rw [htp]
            exact zp_set_self
          · exfalso
            omega
def zK_fe : zk_K := (zt_mn 205, prog_14_method_33_code, 6, (Option.some Jvm.ClassFile.FieldType.int), 1, 12, [(2, 13, 0, 0), (0, 0, (-2147483648), 2147483647), (0, 0, (-2147483648), 2147483647), (0, 0, (-2147483648), 2147483647), (0, 0, (-2147483648), 2147483647), (0, 0, (-2147483648), 2147483647)], [(some (0, 0, (-1), 400), [])], [(13, 0, 0), (13, 13, 0), (66, 1001, 0)], (1, 40, 0, 0))
def zψ_fe : (Nat → Option Nat) → (Nat → Nat → Int) → List Int → (Nat → Option Nat) → (Nat → Nat → Int) → Int → Prop := fun P G ps P' G' rn => P' = P ∧ True
theorem zp_ps6 {α β : Type} {R : α → β → Prop} {a1 a2 a3 a4 a5 a6 : α} {bs : List β} (h : zk_all2 R [a1, a2, a3, a4, a5, a6] bs) : ∃ b1 b2 b3 b4 b5 b6, bs = [b1, b2, b3, b4, b5, b6] ∧ R a1 b1 ∧ R a2 b2 ∧ R a3 b3 ∧ R a4 b4 ∧ R a5 b5 ∧ R a6 b6 := by
  obtain ⟨b1, r1, rfl, e1, h1⟩ := zk_all2_cons h
  obtain ⟨b2, r2, rfl, e2, h2⟩ := zk_all2_cons h1
  obtain ⟨b3, r3, rfl, e3, h3⟩ := zk_all2_cons h2
  obtain ⟨b4, b5, b6, rfl, e4, e5, e6⟩ := zp_ps3 h3
  exact ⟨b1, b2, b3, b4, b5, b6, rfl, e1, e2, e3, e4, e5, e6⟩
theorem zX_fe {l : Launch} {w : zk_W} (hW : zh_W w) : zk_metX l w zt_dv zt_TB zK_fe (zp_A zp_tA) (zp_B zψ_fe) ∧ zk_cok w zt_TB zK_fe := by
  refine zp_meth hW (pl := 1656) rfl (by decide +kernel) (fun p e R s m args below meth c Q u hx hb hE hQ hU5 heff hnL hok hφ => ?_)
  have hw := hW.1
  obtain ⟨p0, p1, p2, p3, p4, p5, hps, k0, k1, k2, k3, k4, k5⟩ := zp_ps6 hok
  obtain ⟨a, rfl, hp⟩ := zp_this k0
  have hrm : zk_Kr (zk_ev (zp_E zK_fe)) = zk_Kr zK_fe := rfl
  rw [hps] at hφ ⊢
  show zp_J p l e R s m args below meth c Q w u [] 0 [(0, 2, (a : Int)), (1, 0, p1), (2, 0, p2), (3, 0, p3), (4, 0, p4), (5, 0, p5)] [] u.1 (zp_n u.2.1)
  refine zp_kn (k := 13) (a := a) hw (show zp_fd 13 13 = some (12, 0, 0, 0, 400) from rfl) rfl hp (fun hk13 => ?_)
  obtain ⟨tp, htp⟩ := zp_nat (zp_int hk13).1
  have htpb := zp_int hk13
  rw [htp] at htpb
  refine zp_load (pc := 0) hx hb (zd_X12_feed (0, .aload_n 0, 1, 0, []) (List.mem_of_getElem? (i := 0) rfl)) rfl (j := 0) rfl ?_
  refine zp_const (pc := 1) hx hb (zd_X12_feed (1, .iconst 0, 1, 0, []) (List.mem_of_getElem? (i := 1) rfl)) rfl rfl ?_
  refine zp_putf (pc := 2) hx hb hE hw heff (zd_X12_feed (2, .putfield 161, 3, 0, []) (List.mem_of_getElem? (i := 2) rfl)) (j := 18) rfl rfl rfl hp (zp_o0 (by decide) (by decide) (by decide) (by decide)) ?_
  refine zp_load (pc := 5) hx hb (zd_X12_feed (5, .aload_n 0, 1, 0, []) (List.mem_of_getElem? (i := 3) rfl)) rfl (j := 0) rfl ?_
  refine zp_getf (n := (tp : Int)) (pc := 6) hx hb hE hw (zd_X12_feed (6, .getfield 228, 3, 0, []) (List.mem_of_getElem? (i := 4) rfl)) (j := 31) rfl rfl rfl hp ((zp_set_ne (Or.inr (by decide))).trans (htp)) ?_
  refine zp_const (pc := 9) hx hb (zd_X12_feed (9, .bipush 20, 2, 0, []) (List.mem_of_getElem? (i := 5) rfl)) rfl rfl ?_
  refine zp_add (n := ((tp : Int) + 20)) (pc := 11) hx hb (zd_X12_feed (11, .iadd, 1, 0, []) (List.mem_of_getElem? (i := 6) rfl)) (by omega) (zp_r0 (by omega) (by omega)) ?_
  refine zp_const (pc := 12) hx hb (zd_X12_feed (12, .sipush 400, 3, 0, []) (List.mem_of_getElem? (i := 7) rfl)) rfl rfl ?_
  refine zp_icmp (pc := 15) (tgt := 20) hx hb (zd_X12_feed (15, .if_icmp .le 5, 3, 0, []) (List.mem_of_getElem? (i := 8) rfl)) rfl (fun (hc198 : ((tp : Int) + 20) ≤ 400) => ?_) (fun (hc198 : ¬ (((tp : Int) + 20) ≤ 400)) => ?_)
  · refine zp_load (pc := 20) hx hb (zd_X12_feed (20, .aload_n 0, 1, 0, []) (List.mem_of_getElem? (i := 11) rfl)) rfl (j := 0) rfl ?_
    refine zp_load (pc := 21) hx hb (zd_X12_feed (21, .iload_n 1, 1, 0, []) (List.mem_of_getElem? (i := 12) rfl)) rfl (j := 1) rfl ?_
    have qf0 : (zp_set (zp_n u.2.1) a 0 0) a 13 = (tp : Int) := ((zp_set_ne (Or.inr (by decide))).trans (htp))
    refine zp_call (pc := 22) (how := 0) (idx := 234) (mi := 206) (S := []) hx hb hE hw heff hrm (zX_fo hW) rfl (j := 11) rfl rfl (by decide +kernel) (zd_X12_feed (22, .invokevirtual 234, 3, 0, []) (List.mem_of_getElem? (i := 13) rfl)) [(a : Int), p1] rfl ⟨zp_o2 hp, k1, trivial⟩ (Nat.le_of_ble_eq_true rfl) (show (zp_set (zp_n u.2.1) a 0 0) a 13 ≤ 396 by omega) (fun al hal rnf0 Pf0 Gf0 hextf0 hfrf0 hokf0 hcsf0 hpsif0 => ?_)
    obtain rfl := List.mem_singleton.mp hal
    obtain ⟨rfl, hf0⟩ := hpsif0
    have hf0 : Gf0 a 13 = (zp_set (zp_n u.2.1) a 0 0) a 13 + 4 := hf0
    have ef0 : Gf0 a 13 = ((tp : Int) + 4) := by omega
    refine zp_load (pc := 25) hx hb (zd_X12_feed (25, .aload_n 0, 1, 0, []) (List.mem_of_getElem? (i := 14) rfl)) rfl (j := 0) rfl ?_
    refine zp_load (pc := 26) hx hb (zd_X12_feed (26, .iload_n 2, 1, 0, []) (List.mem_of_getElem? (i := 15) rfl)) rfl (j := 2) rfl ?_
    have qf1 : Gf0 a 13 = ((tp : Int) + 4) := ef0
    refine zp_call (pc := 27) (how := 0) (idx := 234) (mi := 206) (S := []) hx hb hE hw heff hrm (zX_fo hW) rfl (j := 11) rfl rfl (by decide +kernel) (zd_X12_feed (27, .invokevirtual 234, 3, 0, []) (List.mem_of_getElem? (i := 16) rfl)) [(a : Int), p2] rfl ⟨zp_o2 hp, k2, trivial⟩ (Nat.le_of_ble_eq_true rfl) (show Gf0 a 13 ≤ 396 by omega) (fun al hal rnf1 Pf1 Gf1 hextf1 hfrf1 hokf1 hcsf1 hpsif1 => ?_)
    obtain rfl := List.mem_singleton.mp hal
    obtain ⟨rfl, hf1⟩ := hpsif1
    have hf1 : Gf1 a 13 = Gf0 a 13 + 4 := hf1
    have ef1 : Gf1 a 13 = ((tp : Int) + 8) := by omega
    refine zp_load (pc := 30) hx hb (zd_X12_feed (30, .aload_n 0, 1, 0, []) (List.mem_of_getElem? (i := 17) rfl)) rfl (j := 0) rfl ?_
    refine zp_load (pc := 31) hx hb (zd_X12_feed (31, .iload_n 3, 1, 0, []) (List.mem_of_getElem? (i := 18) rfl)) rfl (j := 3) rfl ?_
    have qf2 : Gf1 a 13 = ((tp : Int) + 8) := ef1
    refine zp_call (pc := 32) (how := 0) (idx := 234) (mi := 206) (S := []) hx hb hE hw heff hrm (zX_fo hW) rfl (j := 11) rfl rfl (by decide +kernel) (zd_X12_feed (32, .invokevirtual 234, 3, 0, []) (List.mem_of_getElem? (i := 19) rfl)) [(a : Int), p3] rfl ⟨zp_o2 hp, k3, trivial⟩ (Nat.le_of_ble_eq_true rfl) (show Gf1 a 13 ≤ 396 by omega) (fun al hal rnf2 Pf2 Gf2 hextf2 hfrf2 hokf2 hcsf2 hpsif2 => ?_)
    obtain rfl := List.mem_singleton.mp hal
    obtain ⟨rfl, hf2⟩ := hpsif2
    have hf2 : Gf2 a 13 = Gf1 a 13 + 4 := hf2
    have ef2 : Gf2 a 13 = ((tp : Int) + 12) := by omega
    refine zp_load (pc := 35) hx hb (zd_X12_feed (35, .aload_n 0, 1, 0, []) (List.mem_of_getElem? (i := 20) rfl)) rfl (j := 0) rfl ?_
    refine zp_load (pc := 36) hx hb (zd_X12_feed (36, .iload 4, 2, 0, []) (List.mem_of_getElem? (i := 21) rfl)) rfl (j := 4) rfl ?_
    have qf3 : Gf2 a 13 = ((tp : Int) + 12) := ef2
    refine zp_call (pc := 38) (how := 0) (idx := 234) (mi := 206) (S := []) hx hb hE hw heff hrm (zX_fo hW) rfl (j := 11) rfl rfl (by decide +kernel) (zd_X12_feed (38, .invokevirtual 234, 3, 0, []) (List.mem_of_getElem? (i := 22) rfl)) [(a : Int), p4] rfl ⟨zp_o2 hp, k4, trivial⟩ (Nat.le_of_ble_eq_true rfl) (show Gf2 a 13 ≤ 396 by omega) (fun al hal rnf3 Pf3 Gf3 hextf3 hfrf3 hokf3 hcsf3 hpsif3 => ?_)
    obtain rfl := List.mem_singleton.mp hal
    obtain ⟨rfl, hf3⟩ := hpsif3
    have hf3 : Gf3 a 13 = Gf2 a 13 + 4 := hf3
    have ef3 : Gf3 a 13 = ((tp : Int) + 16) := by omega
    refine zp_load (pc := 41) hx hb (zd_X12_feed (41, .aload_n 0, 1, 0, []) (List.mem_of_getElem? (i := 23) rfl)) rfl (j := 0) rfl ?_
    refine zp_load (pc := 42) hx hb (zd_X12_feed (42, .iload 5, 2, 0, []) (List.mem_of_getElem? (i := 24) rfl)) rfl (j := 5) rfl ?_
    have qf4 : Gf3 a 13 = ((tp : Int) + 16) := ef3
    refine zp_call (pc := 44) (how := 0) (idx := 234) (mi := 206) (S := []) hx hb hE hw heff hrm (zX_fo hW) rfl (j := 11) rfl rfl (by decide +kernel) (zd_X12_feed (44, .invokevirtual 234, 3, 0, []) (List.mem_of_getElem? (i := 25) rfl)) [(a : Int), p5] rfl ⟨zp_o2 hp, k5, trivial⟩ (Nat.le_of_ble_eq_true rfl) (show Gf3 a 13 ≤ 396 by omega) (fun al hal rnf4 Pf4 Gf4 hextf4 hfrf4 hokf4 hcsf4 hpsif4 => ?_)
    obtain rfl := List.mem_singleton.mp hal
    obtain ⟨rfl, hf4⟩ := hpsif4
    have hf4 : Gf4 a 13 = Gf3 a 13 + 4 := hf4
    have ef4 : Gf4 a 13 = ((tp : Int) + 20) := by omega
    refine zp_load (pc := 47) hx hb (zd_X12_feed (47, .aload_n 0, 1, 0, []) (List.mem_of_getElem? (i := 26) rfl)) rfl (j := 0) rfl ?_
    refine zp_getf (n := ((tp : Int) + 20)) (pc := 48) hx hb hE hw (zd_X12_feed (48, .getfield 228, 3, 0, []) (List.mem_of_getElem? (i := 27) rfl)) (j := 31) rfl rfl rfl hp ef4 ?_
    refine zp_iret (pc := 51) (n := ((tp : Int) + 20)) hx hb hE hQ hU5 rfl (by decide) (zd_X12_feed (51, .ireturn, 1, 0, []) (List.mem_of_getElem? (i := 28) rfl)) (j := 0) rfl (zp_o0 (by omega) (by omega) (by omega) (by omega)) ?_
    rw [hps]
    exact ⟨rfl, trivial⟩
  · refine zp_const (pc := 18) hx hb (zd_X12_feed (18, .iconst (-1), 1, 0, []) (List.mem_of_getElem? (i := 9) rfl)) rfl rfl ?_
    refine zp_iret (pc := 19) (n := (-1)) hx hb hE hQ hU5 rfl (by decide) (zd_X12_feed (19, .ireturn, 1, 0, []) (List.mem_of_getElem? (i := 10) rfl)) (j := 0) rfl (zp_o0 (by omega) (by omega) (by omega) (by omega)) ?_
    rw [hps]
    exact ⟨rfl, trivial⟩
def zK_sd : zk_K := (zt_mn 188, prog_14_method_9_code, 2, (Option.some Jvm.ClassFile.FieldType.int), 1, 12, [(2, 13, 0, 0), (0, 0, (-6), 2147483647)], [(some (0, 0, (-6), 2147483647), [])], [(13, 8, 0), (13, 1, 0), (58, 1001, 0)], (1, 30, 0, 0))
def zψ_sd : (Nat → Option Nat) → (Nat → Nat → Int) → List Int → (Nat → Option Nat) → (Nat → Nat → Int) → Int → Prop := fun P G ps P' G' rn => P' = P ∧ rn = ps.getD 1 0
theorem zX_sd {l : Launch} {w : zk_W} (hW : zh_W w) : zk_metX l w zt_dv zt_TB zK_sd (zp_A zp_tA) (zp_B zψ_sd) ∧ zk_cok w zt_TB zK_sd := by
  refine zp_meth hW (pl := 1580) rfl (by decide +kernel) (fun p e R s m args below meth c Q u hx hb hE hQ hU5 heff hnL hok hφ => ?_)
  have hw := hW.1
  obtain ⟨p0, p1, hps, k0, k1⟩ := zp_ps2 hok
  obtain ⟨a, rfl, hp⟩ := zp_this k0
  have hrm : zk_Kr (zk_ev (zp_E zK_sd)) = zk_Kr zK_sd := rfl
  rw [hps] at hφ ⊢
  have hi1 := zp_int k1
  show zp_J p l e R s m args below meth c Q w u [] 0 [(0, 2, (a : Int)), (1, 0, p1)] [] u.1 (zp_n u.2.1)
  refine zp_kn (k := 8) (a := a) hw (show zp_fd 13 8 = some (12, 0, 0, 0, 16) from rfl) rfl hp (fun hk8 => ?_)
  have hxb := zp_int hk8
  refine zp_load (pc := 0) hx hb (zd_X12_settled (0, .aload_n 0, 1, 0, []) (List.mem_of_getElem? (i := 0) rfl)) rfl (j := 0) rfl ?_
  refine zp_load (pc := 1) hx hb (zd_X12_settled (1, .iload_n 1, 1, 0, []) (List.mem_of_getElem? (i := 1) rfl)) rfl (j := 1) rfl ?_
  refine zp_if (pc := 2) (tgt := 12) hx hb (zd_X12_settled (2, .ifCond .ge 10, 3, 0, []) (List.mem_of_getElem? (i := 2) rfl)) rfl (fun (hc199 : 0 ≤ p1) => ?_) (fun (hc199 : ¬ (0 ≤ p1)) => ?_)
  · refine zp_const (pc := 12) hx hb (zd_X12_settled (12, .iconst 0, 1, 0, []) (List.mem_of_getElem? (i := 6) rfl)) rfl rfl ?_
    refine zp_putf (pc := 13) hx hb hE hw heff (zd_X12_settled (13, .putfield 167, 3, 0, []) (List.mem_of_getElem? (i := 7) rfl)) (j := 26) rfl rfl rfl hp (zp_o0 (by decide) (by decide) (by decide) (by decide)) ?_
    refine zp_load (pc := 16) hx hb (zd_X12_settled (16, .aload_n 0, 1, 0, []) (List.mem_of_getElem? (i := 8) rfl)) rfl (j := 0) rfl ?_
    refine zp_load (pc := 17) hx hb (zd_X12_settled (17, .iload_n 1, 1, 0, []) (List.mem_of_getElem? (i := 9) rfl)) rfl (j := 1) rfl ?_
    refine zp_call (pc := 18) (how := 0) (idx := 170) (mi := 183) (S := []) hx hb hE hw heff hrm (zX_te13 hW) rfl (j := 0) rfl rfl (by decide +kernel) (zd_X12_settled (18, .invokevirtual 170, 3, 0, []) (List.mem_of_getElem? (i := 10) rfl)) [(a : Int), p1] rfl ⟨zp_o2 hp, k1, trivial⟩ (Nat.le_of_ble_eq_true rfl) trivial (fun al hal rnt Pt Gt hextt hfrt hokt hcst hpsit => ?_)
    obtain rfl := List.mem_singleton.mp hal
    have hrt := zp_int (hokt _ rfl).1
    obtain ⟨rfl, hrn⟩ := hpsit
    have hrn : rnt = p1 := hrn
    refine zp_iret (pc := 21) (n := rnt) hx hb hE hQ hU5 rfl (by decide) (zd_X12_settled (21, .ireturn, 1, 0, []) (List.mem_of_getElem? (i := 11) rfl)) (j := 0) rfl (zp_o0 (by omega) (by omega) (by omega) (by omega)) ?_
    rw [hps]
    exact ⟨rfl, hrn⟩
  · refine zp_load (pc := 5) hx hb (zd_X12_settled (5, .aload_n 0, 1, 0, []) (List.mem_of_getElem? (i := 3) rfl)) rfl (j := 0) rfl ?_
    refine zp_getf (n := ((zp_n u.2.1) a 8)) (pc := 6) hx hb hE hw (zd_X12_settled (6, .getfield 167, 3, 0, []) (List.mem_of_getElem? (i := 4) rfl)) (j := 26) rfl rfl rfl hp rfl ?_
    refine zp_goto (tgt := 13) (pc := 9) hx hb (zd_X12_settled (9, .goto 4, 3, 0, []) (List.mem_of_getElem? (i := 5) rfl)) rfl ?_
    refine zp_putf (pc := 13) hx hb hE hw heff (zd_X12_settled (13, .putfield 167, 3, 0, []) (List.mem_of_getElem? (i := 7) rfl)) (j := 26) rfl rfl rfl hp (zp_o0 (by omega) (by omega) (by omega) (by omega)) ?_
    refine zp_load (pc := 16) hx hb (zd_X12_settled (16, .aload_n 0, 1, 0, []) (List.mem_of_getElem? (i := 8) rfl)) rfl (j := 0) rfl ?_
    refine zp_load (pc := 17) hx hb (zd_X12_settled (17, .iload_n 1, 1, 0, []) (List.mem_of_getElem? (i := 9) rfl)) rfl (j := 1) rfl ?_
    refine zp_call (pc := 18) (how := 0) (idx := 170) (mi := 183) (S := []) hx hb hE hw heff hrm (zX_te13 hW) rfl (j := 0) rfl rfl (by decide +kernel) (zd_X12_settled (18, .invokevirtual 170, 3, 0, []) (List.mem_of_getElem? (i := 10) rfl)) [(a : Int), p1] rfl ⟨zp_o2 hp, k1, trivial⟩ (Nat.le_of_ble_eq_true rfl) trivial (fun al hal rnt Pt Gt hextt hfrt hokt hcst hpsit => ?_)
    obtain rfl := List.mem_singleton.mp hal
    have hrt := zp_int (hokt _ rfl).1
    obtain ⟨rfl, hrn⟩ := hpsit
    have hrn : rnt = p1 := hrn
    refine zp_iret (pc := 21) (n := rnt) hx hb hE hQ hU5 rfl (by decide) (zd_X12_settled (21, .ireturn, 1, 0, []) (List.mem_of_getElem? (i := 11) rfl)) (j := 0) rfl (zp_o0 (by omega) (by omega) (by omega) (by omega)) ?_
    rw [hps]
    exact ⟨rfl, hrn⟩
def zK_im : zk_K := (zt_mn 185, prog_14_method_14_code, 3, (Option.some Jvm.ClassFile.FieldType.int), 1, 12, [(2, 13, 0, 0), (0, 0, (-2147483648), 2147483647)], [(some (0, 0, (-6), 0), [])], [(13, 0, 0), (60, 1001, 0), (61, 1001, 0), (13, 1, 0), (58, 1001, 0)], (1, 40, 0, 0))
def zK_bk : zk_K := (zt_mn 187, prog_14_method_15_code, 3, (Option.some Jvm.ClassFile.FieldType.int), 1, 12, [(2, 13, 0, 0), (0, 0, (-2147483648), 2147483647)], [(some (0, 0, (-6), 0), [])], [(13, 0, 0), (59, 1001, 0), (13, 8, 0), (13, 1, 0), (58, 1001, 0)], (2, 70, 0, 0))