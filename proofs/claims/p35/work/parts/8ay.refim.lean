/-! part 8ay: the reference: image, back, with what they copy -/
def zψ_im6 : (Nat → Option Nat) → (Nat → Nat → Int) → List Int → (Nat → Option Nat) → (Nat → Nat → Int) → Int → Prop := fun P G ps P' G' rn => P' = P ∧ ∀ kp b4 b3 : Nat, G (zp_0 ps) 5 = (kp : Int) → G (zp_0 ps) 4 = (b4 : Int) → G (zp_0 ps) 3 = (b3 : Int) → (∀ j : Nat, j < 2 → ((j : Int) ≠ ps.getD 1 0 → G' kp (2000 + j) = G kp (2000 + j)) ∧ ((j : Int) = ps.getD 1 0 → G' kp (2000 + j) = 1)) ∧ ∀ q : Nat, q < 2 → ∀ i : Nat, i < 5580 → ((q : Int) ≠ ps.getD 1 0 → G' b4 (2000 + (5580 * q + i)) = G b4 (2000 + (5580 * q + i))) ∧ ((q : Int) = ps.getD 1 0 → G' b4 (2000 + (5580 * q + i)) = G b3 (2000 + i))
theorem zX_im6 {l : Launch} {w : zk_W} (hW : zh_W w) : zk_metX l w zt_dv zt_TB zK_im (zp_A zp_tA) (zp_B zψ_im6) ∧ zk_cok w zt_TB zK_im := by
  refine zp_meth hW (pl := 1569) rfl (by decide +kernel) (fun p e R s m args below meth c Q u hx hb hE hQ hU5 heff hnL hok hφ => ?_)
  have hw := hW.1
  obtain ⟨p0, p1, hps, k0, k1⟩ := zp_ps2 hok
  obtain ⟨a, rfl, hp⟩ := zp_this k0
  have hrm : zk_Kr (zk_ev (zp_E zK_im)) = zk_Kr zK_im := rfl
  rw [hps] at hφ ⊢
  have hi1 := zp_int k1
  show zp_J p l e R s m args below meth c Q w u [] 0 [(0, 2, (a : Int)), (1, 0, p1)] [] u.1 (zp_n u.2.1)
  refine zp_kn (k := 3) (a := a) hw (show zp_fd 13 3 = some (12, 2, 59, 0, 0) from rfl) rfl hp (fun hk3 => ?_)
  obtain ⟨b3, hb3, hq3⟩ := zp_this hk3
  refine zp_kn (k := 4) (a := a) hw (show zp_fd 13 4 = some (12, 2, 60, 0, 0) from rfl) rfl hp (fun hk4 => ?_)
  obtain ⟨b4, hb4, hq4⟩ := zp_this hk4
  refine zp_kn (k := 5) (a := a) hw (show zp_fd 13 5 = some (12, 2, 61, 0, 0) from rfl) rfl hp (fun hk5 => ?_)
  obtain ⟨b5, hb5, hq5⟩ := zp_this hk5
  refine zp_kx hw hq3 zl_T59 rfl (fun hkx => ?_)
  obtain ⟨f0, hf0, hxi⟩ := hkx
  have hlaws : zk_laws f0 0 := hxi.1 rfl
  have hf0 : ∀ j, j < 5580 → f0 j = zp_n u.2.1 b3 (2000 + j) := hf0
  refine zp_kaT hw hq3 zl_T59 rfl zl_kd (fun hka => ?_)
  have hka : ∀ j, j < 5580 → zk_ok u.1 (zk_fj zl_T j) (zp_n u.2.1 b3 (2000 + j)) := hka
  refine zp_kx hw hq4 (T := zl_T2) rfl rfl (fun hkx => ?_)
  obtain ⟨f1, hf1, hxi1⟩ := hkx
  have hl1 : zk_laws f1 0 ∧ zk_laws f1 5580 := hxi1.2 rfl
  have hf1 : ∀ j, j < 11160 → f1 j = zp_n u.2.1 b4 (2000 + j) := hf1
  refine zp_kaT hw hq4 (T := zl_T2) rfl rfl zl_kd2 (fun hkb => ?_)
  have hkb : ∀ j, j < 11160 → zk_ok u.1 (zk_fj zl_T2 j) (zp_n u.2.1 b4 (2000 + j)) := hkb
  have loop0 : p1 = 0 → ∀ (n i : Nat) (G : Nat → Nat → Int), 5580 - i < n → i ≤ 5580 → (∀ k, G a k = zp_set (zp_n u.2.1) a 0 0 a k) → (∀ k, G b3 k = zp_n u.2.1 b3 k) → (∀ k, G b5 k = zp_n u.2.1 b5 k) → (∀ j, j < 0 ∨ 0 + i ≤ j → G b4 (2000 + j) = zp_n u.2.1 b4 (2000 + j)) → (∀ j, j < i → G b4 (2000 + (0 + j)) = zp_n u.2.1 b3 (2000 + j)) → zp_J p l e R s m args below meth c Q w u [b4] 23 [(2, 0, (i : Int)), (0, 2, (a : Int)), (1, 0, 0)] [] u.1 G := by
    intro hp1 n
    induction n with
    | zero => intro i G h; exact absurd h (Nat.not_lt_zero _)
    | succ n ih =>
      intro i G hn hi za z3 z5 r0 r1
      refine zp_load (pc := 23) hx hb (zd_X12_image (23, .iload_n 2, 1, 0, []) (List.mem_of_getElem? (i := 15) rfl)) rfl (j := 0) rfl ?_
      refine zp_const (pc := 24) hx hb (zd_X12_image (24, .sipush 5580, 3, 0, []) (List.mem_of_getElem? (i := 16) rfl)) rfl rfl ?_
      refine zp_icmp (pc := 27) (tgt := 54) hx hb (zd_X12_image (27, .if_icmp .ge 27, 3, 0, []) (List.mem_of_getElem? (i := 17) rfl)) rfl (fun (hc200 : 5580 ≤ (i : Int)) => ?_) (fun (hc200 : ¬ (5580 ≤ (i : Int))) => ?_)
      · have hi9 : i = 5580 := by omega
        subst hi9
        refine zp_strong hw hq4 (T := zl_T2) rfl rfl (fun f hf => ⟨fun z => absurd z (by decide), fun _ => ?_⟩) ?_
        · have hf : ∀ j, j < 11160 → f j = G b4 (2000 + j) := hf
          exact ⟨zl_cp hlaws (fun j hj => by rw [hf _ (by omega), hf0 _ (by omega), r1 j hj, Nat.zero_add]) (fun _ _ _ => Or.inr trivial) (fun j hj => ⟨u.1, by rw [Nat.zero_add, hf0 j hj]; exact hka j hj⟩), zl_cp hl1.2 (fun j hj => by rw [hf _ (by omega), hf1 _ (by omega), r0 _ (by omega)]) (fun _ _ _ => Or.inr trivial) (fun j hj => ⟨u.1, by rw [hf1 _ (by omega), ← zl_fj2 (i := j) (k := 1) hj (by omega : 5580 + j = 5580 * 1 + j)]; exact hkb _ (by omega)⟩)⟩
        refine zp_load (pc := 54) hx hb (zd_X12_image (54, .aload_n 0, 1, 0, []) (List.mem_of_getElem? (i := 32) rfl)) rfl (j := 1) rfl ?_
        refine zp_getf (n := (b5 : Int)) (pc := 55) hx hb hE hw (zd_X12_image (55, .getfield 19, 3, 0, []) (List.mem_of_getElem? (i := 33) rfl)) (j := 23) rfl rfl rfl hp ((za 5).trans ((zp_set_ne (Or.inr (by decide))).trans hb5)) ?_
        refine zp_load (pc := 58) hx hb (zd_X12_image (58, .iload_n 1, 1, 0, []) (List.mem_of_getElem? (i := 34) rfl)) rfl (j := 2) rfl ?_
        refine zp_const (pc := 59) hx hb (zd_X12_image (59, .iconst 1, 1, 0, []) (List.mem_of_getElem? (i := 35) rfl)) rfl rfl ?_
        refine zp_zast (j := 0) (pc := 60) hx hb hw heff (zd_X12_image (60, .bastore, 1, 0, []) (List.mem_of_getElem? (i := 36) rfl)) (show zp_ia 4 61 = some (2, 0, 0, 0, 1) from rfl) hq5 (by omega) (by omega) (zp_o0 (by omega) (by omega) (by omega) (by omega)) (by omega) rfl ?_
        refine zp_load (pc := 61) hx hb (zd_X12_image (61, .aload_n 0, 1, 0, []) (List.mem_of_getElem? (i := 37) rfl)) rfl (j := 1) rfl ?_
        refine zp_const (pc := 62) hx hb (zd_X12_image (62, .iconst 0, 1, 0, []) (List.mem_of_getElem? (i := 38) rfl)) rfl rfl ?_
        refine zp_call (pc := 63) (how := 0) (idx := 170) (mi := 183) (S := []) hx hb hE hw heff hrm (zX_te13 hW) rfl (j := 0) rfl rfl (by decide +kernel) (zd_X12_image (63, .invokevirtual 170, 3, 0, []) (List.mem_of_getElem? (i := 39) rfl)) [(a : Int), 0] rfl ⟨zp_o2 hp, zp_o0 (by omega) (by omega) (by omega) (by omega), trivial⟩ (Nat.le_of_ble_eq_true rfl) trivial (fun al hal rnt Pt Gt hextt hfrt hokt hcst hpsit => ?_)
        obtain rfl := List.mem_singleton.mp hal
        have hrt := zp_int (hokt _ rfl).1
        obtain ⟨rfl, hrnt⟩ := hpsit
        have hrnt : rnt = 0 := hrnt
        refine zp_iret (pc := 66) (n := rnt) hx hb hE hQ hU5 rfl (by decide) (zd_X12_image (66, .ireturn, 1, 0, []) (List.mem_of_getElem? (i := 40) rfl)) (j := 0) rfl (zp_o0 (by omega) (by omega) (by omega) (by omega)) ?_
        rw [hps]
        refine ⟨rfl, fun kp c4 c3 h5 h4 h3 => ?_⟩
        have h5 : zp_n u.2.1 a 5 = (kp : Int) := h5
        have h4 : zp_n u.2.1 a 4 = (c4 : Int) := h4
        have h3 : zp_n u.2.1 a 3 = (c3 : Int) := h3
        obtain rfl : b5 = kp := by omega
        obtain rfl : b4 = c4 := by omega
        obtain rfl : b3 = c3 := by omega
        show (∀ j : Nat, j < 2 → ((j : Int) ≠ p1 → Gt b5 (2000 + j) = zp_n u.2.1 b5 (2000 + j)) ∧ ((j : Int) = p1 → Gt b5 (2000 + j) = 1)) ∧ ∀ q : Nat, q < 2 → ∀ i : Nat, i < 5580 → ((q : Int) ≠ p1 → Gt b4 (2000 + (5580 * q + i)) = zp_n u.2.1 b4 (2000 + (5580 * q + i))) ∧ ((q : Int) = p1 → Gt b4 (2000 + (5580 * q + i)) = zp_n u.2.1 b3 (2000 + i))
        refine ⟨fun j hj => ?_, fun q hq i2 hi2 => ?_⟩
        · have e5 := zp_nc hfrt hq5 rfl (2000 + j)
          rw [e5]
          obtain rfl | rfl : j = 0 ∨ j = 1 := by omega
          · exact ⟨fun h => absurd (by rw [hp1]; rfl) h, fun _ => zp_set_eq rfl rfl⟩
          · exact ⟨fun _ => (zp_set_ne (Or.inr (by decide))).trans (z5 _), fun h => absurd h (by rw [hp1]; decide)⟩
        · have e4 : Gt b4 (2000 + (5580 * q + i2)) = G b4 (2000 + (5580 * q + i2)) := (zp_nc hfrt hq4 rfl _).trans (zp_set_ne (Or.inl (zp_pne hq4 hq5 (by decide))))
          rw [e4]
          obtain rfl | rfl : q = 0 ∨ q = 1 := by omega
          · exact ⟨fun h => absurd (by rw [hp1]; rfl) h, fun _ => (r1 i2 (by omega))⟩
          · exact ⟨fun _ => r0 _ (by omega), fun h => absurd h (by rw [hp1]; decide)⟩
      · refine zp_load (pc := 30) hx hb (zd_X12_image (30, .aload_n 0, 1, 0, []) (List.mem_of_getElem? (i := 18) rfl)) rfl (j := 1) rfl ?_
        refine zp_getf (n := (b4 : Int)) (pc := 31) hx hb hE hw (zd_X12_image (31, .getfield 16, 3, 0, []) (List.mem_of_getElem? (i := 19) rfl)) (j := 22) rfl rfl rfl hp ((za 4).trans ((zp_set_ne (Or.inr (by decide))).trans hb4)) ?_
        refine zp_const (pc := 34) hx hb (zd_X12_image (34, .sipush 5580, 3, 0, []) (List.mem_of_getElem? (i := 20) rfl)) rfl rfl ?_
        refine zp_load (pc := 37) hx hb (zd_X12_image (37, .iload_n 1, 1, 0, []) (List.mem_of_getElem? (i := 21) rfl)) rfl (j := 2) rfl ?_
        refine zp_mul (n := 0) (pc := 38) hx hb (zd_X12_image (38, .imul, 1, 0, []) (List.mem_of_getElem? (i := 22) rfl)) (by omega) (zp_r0 (by omega) (by omega)) ?_
        refine zp_load (pc := 39) hx hb (zd_X12_image (39, .iload_n 2, 1, 0, []) (List.mem_of_getElem? (i := 23) rfl)) rfl (j := 0) rfl ?_
        refine zp_add (n := (i : Int)) (pc := 40) hx hb (zd_X12_image (40, .iadd, 1, 0, []) (List.mem_of_getElem? (i := 24) rfl)) (by omega) (zp_r0 (by omega) (by omega)) ?_
        refine zp_load (pc := 41) hx hb (zd_X12_image (41, .aload_n 0, 1, 0, []) (List.mem_of_getElem? (i := 25) rfl)) rfl (j := 1) rfl ?_
        refine zp_getf (n := (b3 : Int)) (pc := 42) hx hb hE hw (zd_X12_image (42, .getfield 13, 3, 0, []) (List.mem_of_getElem? (i := 26) rfl)) (j := 21) rfl rfl rfl hp ((za 3).trans ((zp_set_ne (Or.inr (by decide))).trans hb3)) ?_
        refine zp_load (pc := 45) hx hb (zd_X12_image (45, .iload_n 2, 1, 0, []) (List.mem_of_getElem? (i := 27) rfl)) rfl (j := 0) rfl ?_
        refine zp_ialdT (j := i) (v := (G b3 (2000 + i))) (pc := 46) hx hb hw (zd_X12_image (46, .iaload, 1, 0, []) (List.mem_of_getElem? (i := 28) rfl)) zl_T59 rfl (zl_kd i) hq3 rfl (show i < 5580 by omega) rfl (fun hrow => ?_)
        refine zp_iastT (j := i) (pc := 47) hx hb hw heff (zd_X12_image (47, .iastore, 1, 0, []) (List.mem_of_getElem? (i := 29) rfl)) (T := zl_T2) rfl rfl (zl_kd2 _) hq4 (by omega) (show i < 11160 by omega) (by omega) (by rw [zl_fj2 (i := i) (k := 0) (by omega) (by omega)]; exact hrow) (Or.inl (List.mem_singleton.mpr rfl)) rfl ?_
        refine zp_iinc (L' := [(2, 0, ((i : Int) + 1)), (0, 2, (a : Int)), (1, 0, 0)]) (n := ((i : Int) + 1)) (pc := 48) hx hb hnL (zd_X12_image (48, .iinc 2 1, 3, 0, []) (List.mem_of_getElem? (i := 30) rfl)) (j := 0) rfl (by omega) (zp_r0 (by omega) (by omega)) rfl rfl ?_
        refine zp_goto (tgt := 23) (pc := 51) hx hb (zd_X12_image (51, .goto (-28), 3, 0, []) (List.mem_of_getElem? (i := 31) rfl)) rfl ?_
        refine ih (i + 1) _ (by omega) (by omega) (fun k => (zp_set_ne (Or.inl (zp_pne hp hq4 (by decide)))).trans (za k)) (fun k => (zp_set_ne (Or.inl (zp_pne hq3 hq4 (by decide)))).trans (z3 k)) (fun k => (zp_set_ne (Or.inl (zp_pne hq5 hq4 (by decide)))).trans (z5 k)) (fun j hj => (zp_set_ne (Or.inr (by omega))).trans (r0 j (by omega))) (fun j hj => ?_)
        by_cases hji : j = i
        · subst hji
          exact (zp_set_eq rfl (by omega)).trans (z3 _)
        · exact (zp_set_ne (Or.inr (by omega))).trans (r1 j (by omega))
  have loop1 : p1 = 1 → ∀ (n i : Nat) (G : Nat → Nat → Int), 5580 - i < n → i ≤ 5580 → (∀ k, G a k = zp_set (zp_n u.2.1) a 0 0 a k) → (∀ k, G b3 k = zp_n u.2.1 b3 k) → (∀ k, G b5 k = zp_n u.2.1 b5 k) → (∀ j, j < 5580 ∨ 5580 + i ≤ j → G b4 (2000 + j) = zp_n u.2.1 b4 (2000 + j)) → (∀ j, j < i → G b4 (2000 + (5580 + j)) = zp_n u.2.1 b3 (2000 + j)) → zp_J p l e R s m args below meth c Q w u [b4] 23 [(2, 0, (i : Int)), (0, 2, (a : Int)), (1, 0, 1)] [] u.1 G := by
    intro hp1 n
    induction n with
    | zero => intro i G h; exact absurd h (Nat.not_lt_zero _)
    | succ n ih =>
      intro i G hn hi za z3 z5 r0 r1
      refine zp_load (pc := 23) hx hb (zd_X12_image (23, .iload_n 2, 1, 0, []) (List.mem_of_getElem? (i := 15) rfl)) rfl (j := 0) rfl ?_
      refine zp_const (pc := 24) hx hb (zd_X12_image (24, .sipush 5580, 3, 0, []) (List.mem_of_getElem? (i := 16) rfl)) rfl rfl ?_
      refine zp_icmp (pc := 27) (tgt := 54) hx hb (zd_X12_image (27, .if_icmp .ge 27, 3, 0, []) (List.mem_of_getElem? (i := 17) rfl)) rfl (fun (hc201 : 5580 ≤ (i : Int)) => ?_) (fun (hc201 : ¬ (5580 ≤ (i : Int))) => ?_)
      · have hi9 : i = 5580 := by omega
        subst hi9
        refine zp_strong hw hq4 (T := zl_T2) rfl rfl (fun f hf => ⟨fun z => absurd z (by decide), fun _ => ?_⟩) ?_
        · have hf : ∀ j, j < 11160 → f j = G b4 (2000 + j) := hf
          exact ⟨zl_cp hl1.1 (fun j hj => by rw [hf _ (by omega), hf1 _ (by omega), r0 _ (by omega)]) (fun _ _ _ => Or.inr trivial) (fun j hj => ⟨u.1, by rw [Nat.zero_add, hf1 j (by omega), ← zl_fj2 (i := j) (k := 0) hj (by omega : j = 5580 * 0 + j)]; exact hkb j (by omega)⟩), zl_cp hlaws (fun j hj => by rw [hf _ (by omega), hf0 _ (by omega), r1 j hj, Nat.zero_add]) (fun _ _ _ => Or.inr trivial) (fun j hj => ⟨u.1, by rw [Nat.zero_add, hf0 j hj]; exact hka j hj⟩)⟩
        refine zp_load (pc := 54) hx hb (zd_X12_image (54, .aload_n 0, 1, 0, []) (List.mem_of_getElem? (i := 32) rfl)) rfl (j := 1) rfl ?_
        refine zp_getf (n := (b5 : Int)) (pc := 55) hx hb hE hw (zd_X12_image (55, .getfield 19, 3, 0, []) (List.mem_of_getElem? (i := 33) rfl)) (j := 23) rfl rfl rfl hp ((za 5).trans ((zp_set_ne (Or.inr (by decide))).trans hb5)) ?_
        refine zp_load (pc := 58) hx hb (zd_X12_image (58, .iload_n 1, 1, 0, []) (List.mem_of_getElem? (i := 34) rfl)) rfl (j := 2) rfl ?_
        refine zp_const (pc := 59) hx hb (zd_X12_image (59, .iconst 1, 1, 0, []) (List.mem_of_getElem? (i := 35) rfl)) rfl rfl ?_
        refine zp_zast (j := 1) (pc := 60) hx hb hw heff (zd_X12_image (60, .bastore, 1, 0, []) (List.mem_of_getElem? (i := 36) rfl)) (show zp_ia 4 61 = some (2, 0, 0, 0, 1) from rfl) hq5 (by omega) (by omega) (zp_o0 (by omega) (by omega) (by omega) (by omega)) (by omega) rfl ?_
        refine zp_load (pc := 61) hx hb (zd_X12_image (61, .aload_n 0, 1, 0, []) (List.mem_of_getElem? (i := 37) rfl)) rfl (j := 1) rfl ?_
        refine zp_const (pc := 62) hx hb (zd_X12_image (62, .iconst 0, 1, 0, []) (List.mem_of_getElem? (i := 38) rfl)) rfl rfl ?_
        refine zp_call (pc := 63) (how := 0) (idx := 170) (mi := 183) (S := []) hx hb hE hw heff hrm (zX_te13 hW) rfl (j := 0) rfl rfl (by decide +kernel) (zd_X12_image (63, .invokevirtual 170, 3, 0, []) (List.mem_of_getElem? (i := 39) rfl)) [(a : Int), 0] rfl ⟨zp_o2 hp, zp_o0 (by omega) (by omega) (by omega) (by omega), trivial⟩ (Nat.le_of_ble_eq_true rfl) trivial (fun al hal rnt Pt Gt hextt hfrt hokt hcst hpsit => ?_)
        obtain rfl := List.mem_singleton.mp hal
        have hrt := zp_int (hokt _ rfl).1
        obtain ⟨rfl, hrnt⟩ := hpsit
        have hrnt : rnt = 0 := hrnt
        refine zp_iret (pc := 66) (n := rnt) hx hb hE hQ hU5 rfl (by decide) (zd_X12_image (66, .ireturn, 1, 0, []) (List.mem_of_getElem? (i := 40) rfl)) (j := 0) rfl (zp_o0 (by omega) (by omega) (by omega) (by omega)) ?_
        rw [hps]
        refine ⟨rfl, fun kp c4 c3 h5 h4 h3 => ?_⟩
        have h5 : zp_n u.2.1 a 5 = (kp : Int) := h5
        have h4 : zp_n u.2.1 a 4 = (c4 : Int) := h4
        have h3 : zp_n u.2.1 a 3 = (c3 : Int) := h3
        obtain rfl : b5 = kp := by omega
        obtain rfl : b4 = c4 := by omega
        obtain rfl : b3 = c3 := by omega
        show (∀ j : Nat, j < 2 → ((j : Int) ≠ p1 → Gt b5 (2000 + j) = zp_n u.2.1 b5 (2000 + j)) ∧ ((j : Int) = p1 → Gt b5 (2000 + j) = 1)) ∧ ∀ q : Nat, q < 2 → ∀ i : Nat, i < 5580 → ((q : Int) ≠ p1 → Gt b4 (2000 + (5580 * q + i)) = zp_n u.2.1 b4 (2000 + (5580 * q + i))) ∧ ((q : Int) = p1 → Gt b4 (2000 + (5580 * q + i)) = zp_n u.2.1 b3 (2000 + i))
        refine ⟨fun j hj => ?_, fun q hq i2 hi2 => ?_⟩
        · have e5 := zp_nc hfrt hq5 rfl (2000 + j)
          rw [e5]
          obtain rfl | rfl : j = 0 ∨ j = 1 := by omega
          · exact ⟨fun _ => (zp_set_ne (Or.inr (by decide))).trans (z5 _), fun h => absurd h (by rw [hp1]; decide)⟩
          · exact ⟨fun h => absurd (by rw [hp1]; rfl) h, fun _ => zp_set_eq rfl rfl⟩
        · have e4 : Gt b4 (2000 + (5580 * q + i2)) = G b4 (2000 + (5580 * q + i2)) := (zp_nc hfrt hq4 rfl _).trans (zp_set_ne (Or.inl (zp_pne hq4 hq5 (by decide))))
          rw [e4]
          obtain rfl | rfl : q = 0 ∨ q = 1 := by omega
          · exact ⟨fun _ => r0 _ (by omega), fun h => absurd h (by rw [hp1]; decide)⟩
          · exact ⟨fun h => absurd (by rw [hp1]; rfl) h, fun _ => (r1 i2 (by omega))⟩
      · refine zp_load (pc := 30) hx hb (zd_X12_image (30, .aload_n 0, 1, 0, []) (List.mem_of_getElem? (i := 18) rfl)) rfl (j := 1) rfl ?_
        refine zp_getf (n := (b4 : Int)) (pc := 31) hx hb hE hw (zd_X12_image (31, .getfield 16, 3, 0, []) (List.mem_of_getElem? (i := 19) rfl)) (j := 22) rfl rfl rfl hp ((za 4).trans ((zp_set_ne (Or.inr (by decide))).trans hb4)) ?_
        refine zp_const (pc := 34) hx hb (zd_X12_image (34, .sipush 5580, 3, 0, []) (List.mem_of_getElem? (i := 20) rfl)) rfl rfl ?_
        refine zp_load (pc := 37) hx hb (zd_X12_image (37, .iload_n 1, 1, 0, []) (List.mem_of_getElem? (i := 21) rfl)) rfl (j := 2) rfl ?_
        refine zp_mul (n := 5580) (pc := 38) hx hb (zd_X12_image (38, .imul, 1, 0, []) (List.mem_of_getElem? (i := 22) rfl)) (by omega) (zp_r0 (by omega) (by omega)) ?_
        refine zp_load (pc := 39) hx hb (zd_X12_image (39, .iload_n 2, 1, 0, []) (List.mem_of_getElem? (i := 23) rfl)) rfl (j := 0) rfl ?_
        refine zp_add (n := ((i : Int) + 5580)) (pc := 40) hx hb (zd_X12_image (40, .iadd, 1, 0, []) (List.mem_of_getElem? (i := 24) rfl)) (by omega) (zp_r0 (by omega) (by omega)) ?_
        refine zp_load (pc := 41) hx hb (zd_X12_image (41, .aload_n 0, 1, 0, []) (List.mem_of_getElem? (i := 25) rfl)) rfl (j := 1) rfl ?_
        refine zp_getf (n := (b3 : Int)) (pc := 42) hx hb hE hw (zd_X12_image (42, .getfield 13, 3, 0, []) (List.mem_of_getElem? (i := 26) rfl)) (j := 21) rfl rfl rfl hp ((za 3).trans ((zp_set_ne (Or.inr (by decide))).trans hb3)) ?_
        refine zp_load (pc := 45) hx hb (zd_X12_image (45, .iload_n 2, 1, 0, []) (List.mem_of_getElem? (i := 27) rfl)) rfl (j := 0) rfl ?_
        refine zp_ialdT (j := i) (v := (G b3 (2000 + i))) (pc := 46) hx hb hw (zd_X12_image (46, .iaload, 1, 0, []) (List.mem_of_getElem? (i := 28) rfl)) zl_T59 rfl (zl_kd i) hq3 rfl (show i < 5580 by omega) rfl (fun hrow => ?_)
        refine zp_iastT (j := (i + 5580)) (pc := 47) hx hb hw heff (zd_X12_image (47, .iastore, 1, 0, []) (List.mem_of_getElem? (i := 29) rfl)) (T := zl_T2) rfl rfl (zl_kd2 _) hq4 (by omega) (show (i + 5580) < 11160 by omega) (by omega) (by rw [zl_fj2 (i := i) (k := 1) (by omega) (by omega)]; exact hrow) (Or.inl (List.mem_singleton.mpr rfl)) rfl ?_
        refine zp_iinc (L' := [(2, 0, ((i : Int) + 1)), (0, 2, (a : Int)), (1, 0, 1)]) (n := ((i : Int) + 1)) (pc := 48) hx hb hnL (zd_X12_image (48, .iinc 2 1, 3, 0, []) (List.mem_of_getElem? (i := 30) rfl)) (j := 0) rfl (by omega) (zp_r0 (by omega) (by omega)) rfl rfl ?_
        refine zp_goto (tgt := 23) (pc := 51) hx hb (zd_X12_image (51, .goto (-28), 3, 0, []) (List.mem_of_getElem? (i := 31) rfl)) rfl ?_
        refine ih (i + 1) _ (by omega) (by omega) (fun k => (zp_set_ne (Or.inl (zp_pne hp hq4 (by decide)))).trans (za k)) (fun k => (zp_set_ne (Or.inl (zp_pne hq3 hq4 (by decide)))).trans (z3 k)) (fun k => (zp_set_ne (Or.inl (zp_pne hq5 hq4 (by decide)))).trans (z5 k)) (fun j hj => (zp_set_ne (Or.inr (by omega))).trans (r0 j (by omega))) (fun j hj => ?_)
        by_cases hji : j = i
        · subst hji
          exact (zp_set_eq rfl (by omega)).trans (z3 _)
        · exact (zp_set_ne (Or.inr (by omega))).trans (r1 j (by omega))
  refine zp_load (pc := 0) hx hb (zd_X12_image (0, .aload_n 0, 1, 0, []) (List.mem_of_getElem? (i := 0) rfl)) rfl (j := 0) rfl ?_
  refine zp_const (pc := 1) hx hb (zd_X12_image (1, .iconst 0, 1, 0, []) (List.mem_of_getElem? (i := 1) rfl)) rfl rfl ?_
  refine zp_putf (pc := 2) hx hb hE hw heff (zd_X12_image (2, .putfield 161, 3, 0, []) (List.mem_of_getElem? (i := 2) rfl)) (j := 18) rfl rfl rfl hp (zp_o0 (by decide) (by decide) (by decide) (by decide)) ?_
  refine zp_load (pc := 5) hx hb (zd_X12_image (5, .iload_n 1, 1, 0, []) (List.mem_of_getElem? (i := 3) rfl)) rfl (j := 1) rfl ?_
  refine zp_i2l (pc := 6) hx hb (zd_X12_image (6, .i2l, 1, 0, []) (List.mem_of_getElem? (i := 4) rfl)) ?_
  refine zp_const (pc := 7) hx hb (zd_X12_image (7, .lconst 0, 1, 0, []) (List.mem_of_getElem? (i := 5) rfl)) rfl rfl ?_
  refine zp_const (pc := 8) hx hb (zd_X12_image (8, .lconst 1, 1, 0, []) (List.mem_of_getElem? (i := 6) rfl)) rfl rfl ?_
  refine zp_call (pc := 9) (how := 1) (idx := 181) (mi := 186) (S := []) hx hb hE hw heff hrm (zX_in2 hW) rfl (j := 2) rfl rfl (by decide +kernel) (zd_X12_image (9, .invokestatic 181, 3, 0, []) (List.mem_of_getElem? (i := 7) rfl)) [p1, 0, 1] rfl ⟨zp_o1 (zp_r1 (by omega) (by omega)), zp_o1 ⟨by decide, by decide⟩, zp_o1 ⟨by decide, by decide⟩, trivial⟩ (Nat.le_of_ble_eq_true rfl) trivial (fun al hal rni Pi Gi hexti hfri hoki hcsi hpsii => ?_)
  obtain rfl := List.mem_singleton.mp hal
  have hri := zp_int (hoki _ rfl).1
  obtain ⟨hPei, hGei, hti⟩ := hpsii
  rw [hPei, hGei]
  have hti : rni = 1 ↔ 0 ≤ p1 ∧ p1 ≤ 1 := hti
  refine zp_if (pc := 12) (tgt := 21) hx hb (zd_X12_image (12, .ifCond .ne 9, 3, 0, []) (List.mem_of_getElem? (i := 8) rfl)) rfl (fun (hc202 : ¬ rni = 0) => ?_) (fun (hc202 : ¬ (¬ rni = 0)) => ?_)
  · have hk01 : p1 = 0 ∨ p1 = 1 := by omega
    rcases hk01 with rfl | rfl
    · refine zp_const (pc := 21) hx hb (zd_X12_image (21, .iconst 0, 1, 0, []) (List.mem_of_getElem? (i := 13) rfl)) rfl rfl ?_
      refine zp_store (L' := [(2, 0, 0), (0, 2, (a : Int)), (1, 0, 0)]) (pc := 22) hx hb hnL (zd_X12_image (22, .istore_n 2, 1, 0, []) (List.mem_of_getElem? (i := 14) rfl)) rfl rfl rfl ?_
      refine zp_weak (xs := [b4]) ?_
      exact loop0 rfl 5581 0 _ (by omega) (by omega) (fun _ => rfl) (fun k => zp_set_ne (Or.inl (zp_pne hq3 hp (by decide)))) (fun k => zp_set_ne (Or.inl (zp_pne hq5 hp (by decide)))) (fun j _ => zp_set_ne (Or.inl (zp_pne hq4 hp (by decide)))) (fun j hj => absurd hj (Nat.not_lt_zero j))
    · refine zp_const (pc := 21) hx hb (zd_X12_image (21, .iconst 0, 1, 0, []) (List.mem_of_getElem? (i := 13) rfl)) rfl rfl ?_
      refine zp_store (L' := [(2, 0, 0), (0, 2, (a : Int)), (1, 0, 1)]) (pc := 22) hx hb hnL (zd_X12_image (22, .istore_n 2, 1, 0, []) (List.mem_of_getElem? (i := 14) rfl)) rfl rfl rfl ?_
      refine zp_weak (xs := [b4]) ?_
      exact loop1 rfl 5581 0 _ (by omega) (by omega) (fun _ => rfl) (fun k => zp_set_ne (Or.inl (zp_pne hq3 hp (by decide)))) (fun k => zp_set_ne (Or.inl (zp_pne hq5 hp (by decide)))) (fun j _ => zp_set_ne (Or.inl (zp_pne hq4 hp (by decide)))) (fun j hj => absurd hj (Nat.not_lt_zero j))
  · refine zp_load (pc := 15) hx hb (zd_X12_image (15, .aload_n 0, 1, 0, []) (List.mem_of_getElem? (i := 9) rfl)) rfl (j := 0) rfl ?_
    refine zp_const (pc := 16) hx hb (zd_X12_image (16, .iconst (-1), 1, 0, []) (List.mem_of_getElem? (i := 10) rfl)) rfl rfl ?_
    refine zp_call (pc := 17) (how := 0) (idx := 170) (mi := 183) (S := []) hx hb hE hw heff hrm (zX_te13 hW) rfl (j := 0) rfl rfl (by decide +kernel) (zd_X12_image (17, .invokevirtual 170, 3, 0, []) (List.mem_of_getElem? (i := 11) rfl)) [(a : Int), (-1)] rfl ⟨zp_o2 hp, zp_o0 (by omega) (by omega) (by omega) (by omega), trivial⟩ (Nat.le_of_ble_eq_true rfl) trivial (fun al hal rnt Pt Gt hextt hfrt hokt hcst hpsit => ?_)
    obtain rfl := List.mem_singleton.mp hal
    have hrt := zp_int (hokt _ rfl).1
    obtain ⟨rfl, hrnt⟩ := hpsit
    have hrnt : rnt = (-1) := hrnt
    refine zp_iret (pc := 20) (n := rnt) hx hb hE hQ hU5 rfl (by decide) (zd_X12_image (20, .ireturn, 1, 0, []) (List.mem_of_getElem? (i := 12) rfl)) (j := 0) rfl (zp_o0 (by omega) (by omega) (by omega) (by omega)) ?_
    rw [hps]
    refine ⟨rfl, fun kp c4 c3 h5 h4 h3 => ?_⟩
    have h5 : zp_n u.2.1 a 5 = (kp : Int) := h5
    have h4 : zp_n u.2.1 a 4 = (c4 : Int) := h4
    have h3 : zp_n u.2.1 a 3 = (c3 : Int) := h3
    obtain rfl : b5 = kp := by omega
    obtain rfl : b4 = c4 := by omega
    obtain rfl : b3 = c3 := by omega
    show (∀ j : Nat, j < 2 → ((j : Int) ≠ p1 → Gt b5 (2000 + j) = zp_n u.2.1 b5 (2000 + j)) ∧ ((j : Int) = p1 → Gt b5 (2000 + j) = 1)) ∧ ∀ q : Nat, q < 2 → ∀ i : Nat, i < 5580 → ((q : Int) ≠ p1 → Gt b4 (2000 + (5580 * q + i)) = zp_n u.2.1 b4 (2000 + (5580 * q + i))) ∧ ((q : Int) = p1 → Gt b4 (2000 + (5580 * q + i)) = zp_n u.2.1 b3 (2000 + i))
    refine ⟨fun j hj => ?_, fun q hq i2 hi2 => ?_⟩
    · have e5 := zp_nc hfrt hq5 rfl (2000 + j)
      exact ⟨fun _ => e5.trans (zp_set_ne (Or.inl (zp_pne hq5 hp (by decide)))), fun h => by exfalso; omega⟩
    · have e4 := zp_nc hfrt hq4 rfl (2000 + (5580 * q + i2))
      exact ⟨fun _ => e4.trans (zp_set_ne (Or.inl (zp_pne hq4 hp (by decide)))), fun h => by exfalso; omega⟩
def zψ_bk6 : (Nat → Option Nat) → (Nat → Nat → Int) → List Int → (Nat → Option Nat) → (Nat → Nat → Int) → Int → Prop := fun P G ps P' G' rn => P' = P ∧ ∀ kp b4 b3 : Nat, G (zp_0 ps) 5 = (kp : Int) → G (zp_0 ps) 4 = (b4 : Int) → G (zp_0 ps) 3 = (b3 : Int) → (¬ (0 ≤ ps.getD 1 0 ∧ ps.getD 1 0 ≤ 1) → rn = -1 ∧ ∀ i : Nat, i < 5580 → G' b3 (2000 + i) = G b3 (2000 + i)) ∧ ∀ q : Nat, q < 2 → ps.getD 1 0 = (q : Int) → (G kp (2000 + q) = 0 → rn = -2 ∧ ∀ i : Nat, i < 5580 → G' b3 (2000 + i) = G b3 (2000 + i)) ∧ (¬ G kp (2000 + q) = 0 → rn = 0 ∧ ∀ i : Nat, i < 5580 → G' b3 (2000 + i) = G b4 (2000 + (5580 * q + i)))
set_option maxRecDepth 40000 in
theorem zX_bk6 {l : Launch} {w : zk_W} (hW : zh_W w) : zk_metX l w zt_dv zt_TB zK_bk (zp_A zp_tA) (zp_B zψ_bk6) ∧ zk_cok w zt_TB zK_bk := by
  refine zp_meth hW (pl := 1576) rfl (by decide +kernel) (fun p e R s m args below meth c Q u hx hb hE hQ hU5 heff hnL hok hφ => ?_)
  have hw := hW.1
  obtain ⟨p0, p1, hps, k0, k1⟩ := zp_ps2 hok
  obtain ⟨a, rfl, hp⟩ := zp_this k0
  have hrm : zk_Kr (zk_ev (zp_E zK_bk)) = zk_Kr zK_bk := rfl
  rw [hps] at hφ ⊢
  have hi1 := zp_int k1
  show zp_J p l e R s m args below meth c Q w u [] 0 [(0, 2, (a : Int)), (1, 0, p1)] [] u.1 (zp_n u.2.1)
  refine zp_kn (k := 3) (a := a) hw (show zp_fd 13 3 = some (12, 2, 59, 0, 0) from rfl) rfl hp (fun hk3 => ?_)
  obtain ⟨b3, hb3, hq3⟩ := zp_this hk3
  refine zp_kn (k := 4) (a := a) hw (show zp_fd 13 4 = some (12, 2, 60, 0, 0) from rfl) rfl hp (fun hk4 => ?_)
  obtain ⟨b4, hb4, hq4⟩ := zp_this hk4
  refine zp_kn (k := 5) (a := a) hw (show zp_fd 13 5 = some (12, 2, 61, 0, 0) from rfl) rfl hp (fun hk5 => ?_)
  obtain ⟨b5, hb5, hq5⟩ := zp_this hk5
  refine zp_kx hw hq3 zl_T59 rfl (fun hkx => ?_)
  obtain ⟨f0, hf0, hxi⟩ := hkx
  have hlaws : zk_laws f0 0 := hxi.1 rfl
  have hf0 : ∀ j, j < 5580 → f0 j = zp_n u.2.1 b3 (2000 + j) := hf0
  refine zp_kaT hw hq3 zl_T59 rfl zl_kd (fun hka => ?_)
  have hka : ∀ j, j < 5580 → zk_ok u.1 (zk_fj zl_T j) (zp_n u.2.1 b3 (2000 + j)) := hka
  refine zp_kx hw hq4 (T := zl_T2) rfl rfl (fun hkx => ?_)
  obtain ⟨f1, hf1, hxi1⟩ := hkx
  have hl1 : zk_laws f1 0 ∧ zk_laws f1 5580 := hxi1.2 rfl
  have hf1 : ∀ j, j < 11160 → f1 j = zp_n u.2.1 b4 (2000 + j) := hf1
  refine zp_kaT hw hq4 (T := zl_T2) rfl rfl zl_kd2 (fun hkb => ?_)
  have hkb : ∀ j, j < 11160 → zk_ok u.1 (zk_fj zl_T2 j) (zp_n u.2.1 b4 (2000 + j)) := hkb
  have loop0 : p1 = 0 ∧ ¬ zp_n u.2.1 b5 (2000 + 0) = 0 → ∀ (n i : Nat) (G : Nat → Nat → Int), 5580 - i < n → i ≤ 5580 → (∀ k, G a k = zp_set (zp_n u.2.1) a 0 0 a k) → (∀ k, G b4 k = zp_n u.2.1 b4 k) → (∀ j, j < i → G b3 (2000 + j) = zp_n u.2.1 b4 (2000 + (0 + j))) → zp_J p l e R s m args below meth c Q w u [b3] 39 [(2, 0, (i : Int)), (0, 2, (a : Int)), (1, 0, 0)] [] u.1 G := by
    intro hp1 n
    induction n with
    | zero => intro i G h; exact absurd h (Nat.not_lt_zero _)
    | succ n ih =>
      intro i G hn hi za z4 r1
      refine zp_load (pc := 39) hx hb (zd_X12_back (39, .iload_n 2, 1, 0, []) (List.mem_of_getElem? (i := 24) rfl)) rfl (j := 0) rfl ?_
      refine zp_const (pc := 40) hx hb (zd_X12_back (40, .sipush 5580, 3, 0, []) (List.mem_of_getElem? (i := 25) rfl)) rfl rfl ?_
      refine zp_icmp (pc := 43) (tgt := 70) hx hb (zd_X12_back (43, .if_icmp .ge 27, 3, 0, []) (List.mem_of_getElem? (i := 26) rfl)) rfl (fun (hc203 : 5580 ≤ (i : Int)) => ?_) (fun (hc203 : ¬ (5580 ≤ (i : Int))) => ?_)
      · have hi9 : i = 5580 := by omega
        subst hi9
        refine zp_strong hw hq3 zl_T59 rfl (fun f hf => ⟨fun _ => ?_, fun z => absurd z (by decide)⟩) ?_
        · have hf : ∀ j, j < 5580 → f j = G b3 (2000 + j) := hf
          exact zl_cp hl1.1 (fun j hj => by rw [Nat.zero_add, hf _ hj, hf1 _ (by omega), r1 j hj, Nat.zero_add]) (fun _ _ _ => Or.inr trivial) (fun j hj => ⟨u.1, by rw [Nat.zero_add, hf1 j (by omega), ← zl_fj2 (i := j) (k := 0) hj (by omega : j = 5580 * 0 + j)]; exact hkb j (by omega)⟩)
        refine zp_load (pc := 70) hx hb (zd_X12_back (70, .aload_n 0, 1, 0, []) (List.mem_of_getElem? (i := 41) rfl)) rfl (j := 1) rfl ?_
        refine zp_const (pc := 71) hx hb (zd_X12_back (71, .iconst 0, 1, 0, []) (List.mem_of_getElem? (i := 42) rfl)) rfl rfl ?_
        refine zp_call (pc := 72) (how := 0) (idx := 185) (mi := 188) (S := []) hx hb hE hw heff hrm (zX_sd hW) rfl (j := 3) rfl rfl (by decide +kernel) (zd_X12_back (72, .invokevirtual 185, 3, 0, []) (List.mem_of_getElem? (i := 43) rfl)) [(a : Int), 0] rfl ⟨zp_o2 hp, zp_o0 (by decide) (by decide) (by decide) (by decide), trivial⟩ (Nat.le_of_ble_eq_true rfl) trivial (fun al hal rnt Pt Gt hextt hfrt hokt hcst hpsit => ?_)
        obtain rfl := List.mem_singleton.mp hal
        have hrt := zp_int (hokt _ rfl).1
        obtain ⟨rfl, hrnt⟩ := hpsit
        have hrnt : rnt = 0 := hrnt
        refine zp_iret (pc := 75) (n := rnt) hx hb hE hQ hU5 rfl (by decide) (zd_X12_back (75, .ireturn, 1, 0, []) (List.mem_of_getElem? (i := 44) rfl)) (j := 0) rfl (zp_o0 (by omega) (by omega) (by omega) (by omega)) ?_
        rw [hps]
        refine ⟨rfl, fun kp c4 c3 h5 h4 h3 => ?_⟩
        have h5 : zp_n u.2.1 a 5 = (kp : Int) := h5
        have h4 : zp_n u.2.1 a 4 = (c4 : Int) := h4
        have h3 : zp_n u.2.1 a 3 = (c3 : Int) := h3
        obtain rfl : b5 = kp := by omega
        obtain rfl : b4 = c4 := by omega
        obtain rfl : b3 = c3 := by omega
        show (¬ (0 ≤ p1 ∧ p1 ≤ 1) → rnt = -1 ∧ ∀ i : Nat, i < 5580 → Gt b3 (2000 + i) = zp_n u.2.1 b3 (2000 + i)) ∧ ∀ q : Nat, q < 2 → p1 = (q : Int) → (zp_n u.2.1 b5 (2000 + q) = 0 → rnt = -2 ∧ ∀ i : Nat, i < 5580 → Gt b3 (2000 + i) = zp_n u.2.1 b3 (2000 + i)) ∧ (¬ zp_n u.2.1 b5 (2000 + q) = 0 → rnt = 0 ∧ ∀ i : Nat, i < 5580 → Gt b3 (2000 + i) = zp_n u.2.1 b4 (2000 + (5580 * q + i)))
        refine ⟨fun h => absurd (show 0 ≤ p1 ∧ p1 ≤ 1 from ⟨by omega, by omega⟩) h, fun q hq e => ?_⟩
        obtain rfl : q = 0 := by omega
        exact ⟨fun h => absurd h hp1.2, fun _ => ⟨hrnt, fun i2 hi2 => (zp_nc hfrt hq3 rfl _).trans (r1 i2 (by omega))⟩⟩
      · refine zp_load (pc := 46) hx hb (zd_X12_back (46, .aload_n 0, 1, 0, []) (List.mem_of_getElem? (i := 27) rfl)) rfl (j := 1) rfl ?_
        refine zp_getf (n := (b3 : Int)) (pc := 47) hx hb hE hw (zd_X12_back (47, .getfield 13, 3, 0, []) (List.mem_of_getElem? (i := 28) rfl)) (j := 21) rfl rfl rfl hp ((za 3).trans ((zp_set_ne (Or.inr (by decide))).trans hb3)) ?_
        refine zp_load (pc := 50) hx hb (zd_X12_back (50, .iload_n 2, 1, 0, []) (List.mem_of_getElem? (i := 29) rfl)) rfl (j := 0) rfl ?_
        refine zp_load (pc := 51) hx hb (zd_X12_back (51, .aload_n 0, 1, 0, []) (List.mem_of_getElem? (i := 30) rfl)) rfl (j := 1) rfl ?_
        refine zp_getf (n := (b4 : Int)) (pc := 52) hx hb hE hw (zd_X12_back (52, .getfield 16, 3, 0, []) (List.mem_of_getElem? (i := 31) rfl)) (j := 22) rfl rfl rfl hp ((za 4).trans ((zp_set_ne (Or.inr (by decide))).trans hb4)) ?_
        refine zp_const (pc := 55) hx hb (zd_X12_back (55, .sipush 5580, 3, 0, []) (List.mem_of_getElem? (i := 32) rfl)) rfl rfl ?_
        refine zp_load (pc := 58) hx hb (zd_X12_back (58, .iload_n 1, 1, 0, []) (List.mem_of_getElem? (i := 33) rfl)) rfl (j := 2) rfl ?_
        refine zp_mul (n := 0) (pc := 59) hx hb (zd_X12_back (59, .imul, 1, 0, []) (List.mem_of_getElem? (i := 34) rfl)) (by omega) (zp_r0 (by omega) (by omega)) ?_
        refine zp_load (pc := 60) hx hb (zd_X12_back (60, .iload_n 2, 1, 0, []) (List.mem_of_getElem? (i := 35) rfl)) rfl (j := 0) rfl ?_
        refine zp_add (n := (i : Int)) (pc := 61) hx hb (zd_X12_back (61, .iadd, 1, 0, []) (List.mem_of_getElem? (i := 36) rfl)) (by omega) (zp_r0 (by omega) (by omega)) ?_
        refine zp_ialdT (j := i) (v := (G b4 (2000 + i))) (pc := 62) hx hb hw (zd_X12_back (62, .iaload, 1, 0, []) (List.mem_of_getElem? (i := 37) rfl)) (T := zl_T2) rfl rfl (zl_kd2 _) hq4 (by omega) (show i < 11160 by omega) rfl (fun hrow => ?_)
        rw [zl_fj2 (i := i) (k := 0) (by omega) (by omega)] at hrow
        refine zp_iastT (j := i) (pc := 63) hx hb hw heff (zd_X12_back (63, .iastore, 1, 0, []) (List.mem_of_getElem? (i := 38) rfl)) zl_T59 rfl (zl_kd _) hq3 (by omega) (show i < 5580 by omega) (by omega) hrow (Or.inl (List.mem_singleton.mpr rfl)) rfl ?_
        refine zp_iinc (L' := [(2, 0, ((i : Int) + 1)), (0, 2, (a : Int)), (1, 0, 0)]) (n := ((i : Int) + 1)) (pc := 64) hx hb hnL (zd_X12_back (64, .iinc 2 1, 3, 0, []) (List.mem_of_getElem? (i := 39) rfl)) (j := 0) rfl (by omega) (zp_r0 (by omega) (by omega)) rfl rfl ?_
        refine zp_goto (tgt := 39) (pc := 67) hx hb (zd_X12_back (67, .goto (-28), 3, 0, []) (List.mem_of_getElem? (i := 40) rfl)) rfl ?_
        refine ih (i + 1) _ (by omega) (by omega) (fun k => (zp_set_ne (Or.inl (zp_pne hp hq3 (by decide)))).trans (za k)) (fun k => (zp_set_ne (Or.inl (zp_pne hq4 hq3 (by decide)))).trans (z4 k)) (fun j hj => ?_)
        by_cases hji : j = i
        · subst hji
          exact (zp_set_eq rfl rfl).trans ((z4 _).trans (by rw [Nat.zero_add]))
        · exact (zp_set_ne (Or.inr (by omega))).trans (r1 j (by omega))
  have loop1 : p1 = 1 ∧ ¬ zp_n u.2.1 b5 (2000 + 1) = 0 → ∀ (n i : Nat) (G : Nat → Nat → Int), 5580 - i < n → i ≤ 5580 → (∀ k, G a k = zp_set (zp_n u.2.1) a 0 0 a k) → (∀ k, G b4 k = zp_n u.2.1 b4 k) → (∀ j, j < i → G b3 (2000 + j) = zp_n u.2.1 b4 (2000 + (5580 + j))) → zp_J p l e R s m args below meth c Q w u [b3] 39 [(2, 0, (i : Int)), (0, 2, (a : Int)), (1, 0, 1)] [] u.1 G := by
    intro hp1 n
    induction n with
    | zero => intro i G h; exact absurd h (Nat.not_lt_zero _)
    | succ n ih =>
      intro i G hn hi za z4 r1
      refine zp_load (pc := 39) hx hb (zd_X12_back (39, .iload_n 2, 1, 0, []) (List.mem_of_getElem? (i := 24) rfl)) rfl (j := 0) rfl ?_
      refine zp_const (pc := 40) hx hb (zd_X12_back (40, .sipush 5580, 3, 0, []) (List.mem_of_getElem? (i := 25) rfl)) rfl rfl ?_
      refine zp_icmp (pc := 43) (tgt := 70) hx hb (zd_X12_back (43, .if_icmp .ge 27, 3, 0, []) (List.mem_of_getElem? (i := 26) rfl)) rfl (fun (hc204 : 5580 ≤ (i : Int)) => ?_) (fun (hc204 : ¬ (5580 ≤ (i : Int))) => ?_)
      · have hi9 : i = 5580 := by omega
        subst hi9
        refine zp_strong hw hq3 zl_T59 rfl (fun f hf => ⟨fun _ => ?_, fun z => absurd z (by decide)⟩) ?_
        · have hf : ∀ j, j < 5580 → f j = G b3 (2000 + j) := hf
          exact zl_cp hl1.2 (fun j hj => by rw [Nat.zero_add, hf _ hj, hf1 _ (by omega), r1 j hj]) (fun _ _ _ => Or.inr trivial) (fun j hj => ⟨u.1, by rw [hf1 _ (by omega), ← zl_fj2 (i := j) (k := 1) hj (by omega : 5580 + j = 5580 * 1 + j)]; exact hkb _ (by omega)⟩)
        refine zp_load (pc := 70) hx hb (zd_X12_back (70, .aload_n 0, 1, 0, []) (List.mem_of_getElem? (i := 41) rfl)) rfl (j := 1) rfl ?_
        refine zp_const (pc := 71) hx hb (zd_X12_back (71, .iconst 0, 1, 0, []) (List.mem_of_getElem? (i := 42) rfl)) rfl rfl ?_
        refine zp_call (pc := 72) (how := 0) (idx := 185) (mi := 188) (S := []) hx hb hE hw heff hrm (zX_sd hW) rfl (j := 3) rfl rfl (by decide +kernel) (zd_X12_back (72, .invokevirtual 185, 3, 0, []) (List.mem_of_getElem? (i := 43) rfl)) [(a : Int), 0] rfl ⟨zp_o2 hp, zp_o0 (by decide) (by decide) (by decide) (by decide), trivial⟩ (Nat.le_of_ble_eq_true rfl) trivial (fun al hal rnt Pt Gt hextt hfrt hokt hcst hpsit => ?_)
        obtain rfl := List.mem_singleton.mp hal
        have hrt := zp_int (hokt _ rfl).1
        obtain ⟨rfl, hrnt⟩ := hpsit
        have hrnt : rnt = 0 := hrnt
        refine zp_iret (pc := 75) (n := rnt) hx hb hE hQ hU5 rfl (by decide) (zd_X12_back (75, .ireturn, 1, 0, []) (List.mem_of_getElem? (i := 44) rfl)) (j := 0) rfl (zp_o0 (by omega) (by omega) (by omega) (by omega)) ?_
        rw [hps]
        refine ⟨rfl, fun kp c4 c3 h5 h4 h3 => ?_⟩
        have h5 : zp_n u.2.1 a 5 = (kp : Int) := h5
        have h4 : zp_n u.2.1 a 4 = (c4 : Int) := h4
        have h3 : zp_n u.2.1 a 3 = (c3 : Int) := h3
        obtain rfl : b5 = kp := by omega
        obtain rfl : b4 = c4 := by omega
        obtain rfl : b3 = c3 := by omega
        show (¬ (0 ≤ p1 ∧ p1 ≤ 1) → rnt = -1 ∧ ∀ i : Nat, i < 5580 → Gt b3 (2000 + i) = zp_n u.2.1 b3 (2000 + i)) ∧ ∀ q : Nat, q < 2 → p1 = (q : Int) → (zp_n u.2.1 b5 (2000 + q) = 0 → rnt = -2 ∧ ∀ i : Nat, i < 5580 → Gt b3 (2000 + i) = zp_n u.2.1 b3 (2000 + i)) ∧ (¬ zp_n u.2.1 b5 (2000 + q) = 0 → rnt = 0 ∧ ∀ i : Nat, i < 5580 → Gt b3 (2000 + i) = zp_n u.2.1 b4 (2000 + (5580 * q + i)))
        refine ⟨fun h => absurd (show 0 ≤ p1 ∧ p1 ≤ 1 from ⟨by omega, by omega⟩) h, fun q hq e => ?_⟩
        obtain rfl : q = 1 := by omega
        exact ⟨fun h => absurd h hp1.2, fun _ => ⟨hrnt, fun i2 hi2 => (zp_nc hfrt hq3 rfl _).trans (r1 i2 (by omega))⟩⟩
      · refine zp_load (pc := 46) hx hb (zd_X12_back (46, .aload_n 0, 1, 0, []) (List.mem_of_getElem? (i := 27) rfl)) rfl (j := 1) rfl ?_
        refine zp_getf (n := (b3 : Int)) (pc := 47) hx hb hE hw (zd_X12_back (47, .getfield 13, 3, 0, []) (List.mem_of_getElem? (i := 28) rfl)) (j := 21) rfl rfl rfl hp ((za 3).trans ((zp_set_ne (Or.inr (by decide))).trans hb3)) ?_
        refine zp_load (pc := 50) hx hb (zd_X12_back (50, .iload_n 2, 1, 0, []) (List.mem_of_getElem? (i := 29) rfl)) rfl (j := 0) rfl ?_
        refine zp_load (pc := 51) hx hb (zd_X12_back (51, .aload_n 0, 1, 0, []) (List.mem_of_getElem? (i := 30) rfl)) rfl (j := 1) rfl ?_
        refine zp_getf (n := (b4 : Int)) (pc := 52) hx hb hE hw (zd_X12_back (52, .getfield 16, 3, 0, []) (List.mem_of_getElem? (i := 31) rfl)) (j := 22) rfl rfl rfl hp ((za 4).trans ((zp_set_ne (Or.inr (by decide))).trans hb4)) ?_
        refine zp_const (pc := 55) hx hb (zd_X12_back (55, .sipush 5580, 3, 0, []) (List.mem_of_getElem? (i := 32) rfl)) rfl rfl ?_
        refine zp_load (pc := 58) hx hb (zd_X12_back (58, .iload_n 1, 1, 0, []) (List.mem_of_getElem? (i := 33) rfl)) rfl (j := 2) rfl ?_
        refine zp_mul (n := 5580) (pc := 59) hx hb (zd_X12_back (59, .imul, 1, 0, []) (List.mem_of_getElem? (i := 34) rfl)) (by omega) (zp_r0 (by omega) (by omega)) ?_
        refine zp_load (pc := 60) hx hb (zd_X12_back (60, .iload_n 2, 1, 0, []) (List.mem_of_getElem? (i := 35) rfl)) rfl (j := 0) rfl ?_
        refine zp_add (n := ((i : Int) + 5580)) (pc := 61) hx hb (zd_X12_back (61, .iadd, 1, 0, []) (List.mem_of_getElem? (i := 36) rfl)) (by omega) (zp_r0 (by omega) (by omega)) ?_
        refine zp_ialdT (j := (i + 5580)) (v := (G b4 (2000 + (i + 5580)))) (pc := 62) hx hb hw (zd_X12_back (62, .iaload, 1, 0, []) (List.mem_of_getElem? (i := 37) rfl)) (T := zl_T2) rfl rfl (zl_kd2 _) hq4 (by omega) (show (i + 5580) < 11160 by omega) rfl (fun hrow => ?_)
        rw [zl_fj2 (i := i) (k := 1) (by omega) (by omega)] at hrow
        refine zp_iastT (j := i) (pc := 63) hx hb hw heff (zd_X12_back (63, .iastore, 1, 0, []) (List.mem_of_getElem? (i := 38) rfl)) zl_T59 rfl (zl_kd _) hq3 (by omega) (show i < 5580 by omega) (by omega) hrow (Or.inl (List.mem_singleton.mpr rfl)) rfl ?_
        refine zp_iinc (L' := [(2, 0, ((i : Int) + 1)), (0, 2, (a : Int)), (1, 0, 1)]) (n := ((i : Int) + 1)) (pc := 64) hx hb hnL (zd_X12_back (64, .iinc 2 1, 3, 0, []) (List.mem_of_getElem? (i := 39) rfl)) (j := 0) rfl (by omega) (zp_r0 (by omega) (by omega)) rfl rfl ?_
        refine zp_goto (tgt := 39) (pc := 67) hx hb (zd_X12_back (67, .goto (-28), 3, 0, []) (List.mem_of_getElem? (i := 40) rfl)) rfl ?_
        refine ih (i + 1) _ (by omega) (by omega) (fun k => (zp_set_ne (Or.inl (zp_pne hp hq3 (by decide)))).trans (za k)) (fun k => (zp_set_ne (Or.inl (zp_pne hq4 hq3 (by decide)))).trans (z4 k)) (fun j hj => ?_)
        by_cases hji : j = i
        · subst hji
          exact (zp_set_eq rfl rfl).trans ((z4 _).trans (by rw [Nat.add_comm j 5580]))
        · exact (zp_set_ne (Or.inr (by omega))).trans (r1 j (by omega))
  refine zp_load (pc := 0) hx hb (zd_X12_back (0, .aload_n 0, 1, 0, []) (List.mem_of_getElem? (i := 0) rfl)) rfl (j := 0) rfl ?_
  refine zp_const (pc := 1) hx hb (zd_X12_back (1, .iconst 0, 1, 0, []) (List.mem_of_getElem? (i := 1) rfl)) rfl rfl ?_
  refine zp_putf (pc := 2) hx hb hE hw heff (zd_X12_back (2, .putfield 161, 3, 0, []) (List.mem_of_getElem? (i := 2) rfl)) (j := 18) rfl rfl rfl hp (zp_o0 (by decide) (by decide) (by decide) (by decide)) ?_
  refine zp_load (pc := 5) hx hb (zd_X12_back (5, .iload_n 1, 1, 0, []) (List.mem_of_getElem? (i := 3) rfl)) rfl (j := 1) rfl ?_
  refine zp_i2l (pc := 6) hx hb (zd_X12_back (6, .i2l, 1, 0, []) (List.mem_of_getElem? (i := 4) rfl)) ?_
  refine zp_const (pc := 7) hx hb (zd_X12_back (7, .lconst 0, 1, 0, []) (List.mem_of_getElem? (i := 5) rfl)) rfl rfl ?_
  refine zp_const (pc := 8) hx hb (zd_X12_back (8, .lconst 1, 1, 0, []) (List.mem_of_getElem? (i := 6) rfl)) rfl rfl ?_
  refine zp_call (pc := 9) (how := 1) (idx := 181) (mi := 186) (S := []) hx hb hE hw heff hrm (zX_in2 hW) rfl (j := 2) rfl rfl (by decide +kernel) (zd_X12_back (9, .invokestatic 181, 3, 0, []) (List.mem_of_getElem? (i := 7) rfl)) [p1, 0, 1] rfl ⟨zp_o1 (zp_r1 (by omega) (by omega)), zp_o1 ⟨by decide, by decide⟩, zp_o1 ⟨by decide, by decide⟩, trivial⟩ (Nat.le_of_ble_eq_true rfl) trivial (fun al hal rni Pi Gi hexti hfri hoki hcsi hpsii => ?_)
  obtain rfl := List.mem_singleton.mp hal
  have hri := zp_int (hoki _ rfl).1
  obtain ⟨hPei, hGei, hti⟩ := hpsii
  rw [hPei, hGei]
  have hti : rni = 1 ↔ 0 ≤ p1 ∧ p1 ≤ 1 := hti
  refine zp_if (pc := 12) (tgt := 21) hx hb (zd_X12_back (12, .ifCond .ne 9, 3, 0, []) (List.mem_of_getElem? (i := 8) rfl)) rfl (fun (hc205 : ¬ rni = 0) => ?_) (fun (hc205 : ¬ (¬ rni = 0)) => ?_)
  · have hk01 : p1 = 0 ∨ p1 = 1 := by omega
    rcases hk01 with rfl | rfl
    · refine zp_load (pc := 21) hx hb (zd_X12_back (21, .aload_n 0, 1, 0, []) (List.mem_of_getElem? (i := 13) rfl)) rfl (j := 0) rfl ?_
      refine zp_getf (n := (b5 : Int)) (pc := 22) hx hb hE hw (zd_X12_back (22, .getfield 19, 3, 0, []) (List.mem_of_getElem? (i := 14) rfl)) (j := 23) rfl rfl rfl hp ((zp_set_ne (Or.inr (by decide))).trans (hb5)) ?_
      refine zp_load (pc := 25) hx hb (zd_X12_back (25, .iload_n 1, 1, 0, []) (List.mem_of_getElem? (i := 15) rfl)) rfl (j := 1) rfl ?_
      refine zp_zald (j := 0) (v := ((zp_n u.2.1) b5 (2000 + 0))) (pc := 26) hx hb hw (zd_X12_back (26, .baload, 1, 0, []) (List.mem_of_getElem? (i := 16) rfl)) (show zp_ia 4 61 = some (2, 0, 0, 0, 1) from rfl) hq5 (by omega) (by omega) ((zp_set_ne (Or.inl (zp_pne hq5 hp (by decide))))) (fun hk206 => ?_)
      have hk206b := zp_int hk206
      refine zp_if (pc := 27) (tgt := 37) hx hb (zd_X12_back (27, .ifCond .ne 10, 3, 0, []) (List.mem_of_getElem? (i := 17) rfl)) rfl (fun (hc207 : ¬ ((zp_n u.2.1) b5 (2000 + 0)) = 0) => ?_) (fun (hc207 : ¬ (¬ ((zp_n u.2.1) b5 (2000 + 0)) = 0)) => ?_)
      · refine zp_const (pc := 37) hx hb (zd_X12_back (37, .iconst 0, 1, 0, []) (List.mem_of_getElem? (i := 22) rfl)) rfl rfl ?_
        refine zp_store (L' := [(2, 0, 0), (0, 2, (a : Int)), (1, 0, 0)]) (pc := 38) hx hb hnL (zd_X12_back (38, .istore_n 2, 1, 0, []) (List.mem_of_getElem? (i := 23) rfl)) rfl rfl rfl ?_
        refine zp_weak (xs := [b3]) ?_
        exact loop0 ⟨rfl, hc207⟩ 5581 0 _ (by omega) (by omega) (fun _ => rfl) (fun k => zp_set_ne (Or.inl (zp_pne hq4 hp (by decide)))) (fun j hj => absurd hj (Nat.not_lt_zero j))
      · refine zp_load (pc := 30) hx hb (zd_X12_back (30, .aload_n 0, 1, 0, []) (List.mem_of_getElem? (i := 18) rfl)) rfl (j := 0) rfl ?_
        refine zp_const (pc := 31) hx hb (zd_X12_back (31, .bipush (-2), 2, 0, []) (List.mem_of_getElem? (i := 19) rfl)) rfl rfl ?_
        refine zp_call (pc := 33) (how := 0) (idx := 170) (mi := 183) (S := []) hx hb hE hw heff hrm (zX_te13 hW) rfl (j := 0) rfl rfl (by decide +kernel) (zd_X12_back (33, .invokevirtual 170, 3, 0, []) (List.mem_of_getElem? (i := 20) rfl)) [(a : Int), (-2)] rfl ⟨zp_o2 hp, zp_o0 (by omega) (by omega) (by omega) (by omega), trivial⟩ (Nat.le_of_ble_eq_true rfl) trivial (fun al hal rnt Pt Gt hextt hfrt hokt hcst hpsit => ?_)
        obtain rfl := List.mem_singleton.mp hal
        have hrt := zp_int (hokt _ rfl).1
        obtain ⟨rfl, hrnt⟩ := hpsit
        have hrnt : rnt = (-2) := hrnt
        refine zp_iret (pc := 36) (n := rnt) hx hb hE hQ hU5 rfl (by decide) (zd_X12_back (36, .ireturn, 1, 0, []) (List.mem_of_getElem? (i := 21) rfl)) (j := 0) rfl (zp_o0 (by omega) (by omega) (by omega) (by omega)) ?_
        rw [hps]
        refine ⟨rfl, fun kp c4 c3 h5 h4 h3 => ?_⟩
        have h5 : zp_n u.2.1 a 5 = (kp : Int) := h5
        have h4 : zp_n u.2.1 a 4 = (c4 : Int) := h4
        have h3 : zp_n u.2.1 a 3 = (c3 : Int) := h3
        obtain rfl : b5 = kp := by omega
        obtain rfl : b4 = c4 := by omega
        obtain rfl : b3 = c3 := by omega
        show (¬ (0 ≤ (0 : Int) ∧ (0 : Int) ≤ 1) → rnt = -1 ∧ ∀ i : Nat, i < 5580 → Gt b3 (2000 + i) = zp_n u.2.1 b3 (2000 + i)) ∧ ∀ q : Nat, q < 2 → (0 : Int) = (q : Int) → (zp_n u.2.1 b5 (2000 + q) = 0 → rnt = -2 ∧ ∀ i : Nat, i < 5580 → Gt b3 (2000 + i) = zp_n u.2.1 b3 (2000 + i)) ∧ (¬ zp_n u.2.1 b5 (2000 + q) = 0 → rnt = 0 ∧ ∀ i : Nat, i < 5580 → Gt b3 (2000 + i) = zp_n u.2.1 b4 (2000 + (5580 * q + i)))
        refine ⟨fun h => absurd ⟨by decide, by decide⟩ h, fun q hq e => ?_⟩
        obtain rfl : q = 0 := by omega
        exact ⟨fun _ => ⟨hrnt, fun i2 _ => (zp_nc hfrt hq3 rfl _).trans (zp_set_ne (Or.inl (zp_pne hq3 hp (by decide))))⟩, fun h => absurd h hc207⟩
    · refine zp_load (pc := 21) hx hb (zd_X12_back (21, .aload_n 0, 1, 0, []) (List.mem_of_getElem? (i := 13) rfl)) rfl (j := 0) rfl ?_
      refine zp_getf (n := (b5 : Int)) (pc := 22) hx hb hE hw (zd_X12_back (22, .getfield 19, 3, 0, []) (List.mem_of_getElem? (i := 14) rfl)) (j := 23) rfl rfl rfl hp ((zp_set_ne (Or.inr (by decide))).trans (hb5)) ?_
      refine zp_load (pc := 25) hx hb (zd_X12_back (25, .iload_n 1, 1, 0, []) (List.mem_of_getElem? (i := 15) rfl)) rfl (j := 1) rfl ?_
      refine zp_zald (j := 1) (v := ((zp_n u.2.1) b5 (2000 + 1))) (pc := 26) hx hb hw (zd_X12_back (26, .baload, 1, 0, []) (List.mem_of_getElem? (i := 16) rfl)) (show zp_ia 4 61 = some (2, 0, 0, 0, 1) from rfl) hq5 (by omega) (by omega) ((zp_set_ne (Or.inl (zp_pne hq5 hp (by decide))))) (fun hk208 => ?_)
      have hk208b := zp_int hk208
      refine zp_if (pc := 27) (tgt := 37) hx hb (zd_X12_back (27, .ifCond .ne 10, 3, 0, []) (List.mem_of_getElem? (i := 17) rfl)) rfl (fun (hc209 : ¬ ((zp_n u.2.1) b5 (2000 + 1)) = 0) => ?_) (fun (hc209 : ¬ (¬ ((zp_n u.2.1) b5 (2000 + 1)) = 0)) => ?_)
      · refine zp_const (pc := 37) hx hb (zd_X12_back (37, .iconst 0, 1, 0, []) (List.mem_of_getElem? (i := 22) rfl)) rfl rfl ?_
        refine zp_store (L' := [(2, 0, 0), (0, 2, (a : Int)), (1, 0, 1)]) (pc := 38) hx hb hnL (zd_X12_back (38, .istore_n 2, 1, 0, []) (List.mem_of_getElem? (i := 23) rfl)) rfl rfl rfl ?_
        refine zp_weak (xs := [b3]) ?_
        exact loop1 ⟨rfl, hc209⟩ 5581 0 _ (by omega) (by omega) (fun _ => rfl) (fun k => zp_set_ne (Or.inl (zp_pne hq4 hp (by decide)))) (fun j hj => absurd hj (Nat.not_lt_zero j))
      · refine zp_load (pc := 30) hx hb (zd_X12_back (30, .aload_n 0, 1, 0, []) (List.mem_of_getElem? (i := 18) rfl)) rfl (j := 0) rfl ?_
        refine zp_const (pc := 31) hx hb (zd_X12_back (31, .bipush (-2), 2, 0, []) (List.mem_of_getElem? (i := 19) rfl)) rfl rfl ?_
        refine zp_call (pc := 33) (how := 0) (idx := 170) (mi := 183) (S := []) hx hb hE hw heff hrm (zX_te13 hW) rfl (j := 0) rfl rfl (by decide +kernel) (zd_X12_back (33, .invokevirtual 170, 3, 0, []) (List.mem_of_getElem? (i := 20) rfl)) [(a : Int), (-2)] rfl ⟨zp_o2 hp, zp_o0 (by omega) (by omega) (by omega) (by omega), trivial⟩ (Nat.le_of_ble_eq_true rfl) trivial (fun al hal rnt Pt Gt hextt hfrt hokt hcst hpsit => ?_)
        obtain rfl := List.mem_singleton.mp hal
        have hrt := zp_int (hokt _ rfl).1
        obtain ⟨rfl, hrnt⟩ := hpsit
        have hrnt : rnt = (-2) := hrnt
        refine zp_iret (pc := 36) (n := rnt) hx hb hE hQ hU5 rfl (by decide) (zd_X12_back (36, .ireturn, 1, 0, []) (List.mem_of_getElem? (i := 21) rfl)) (j := 0) rfl (zp_o0 (by omega) (by omega) (by omega) (by omega)) ?_
        rw [hps]
        refine ⟨rfl, fun kp c4 c3 h5 h4 h3 => ?_⟩
        have h5 : zp_n u.2.1 a 5 = (kp : Int) := h5
        have h4 : zp_n u.2.1 a 4 = (c4 : Int) := h4
        have h3 : zp_n u.2.1 a 3 = (c3 : Int) := h3
        obtain rfl : b5 = kp := by omega
        obtain rfl : b4 = c4 := by omega
        obtain rfl : b3 = c3 := by omega
        show (¬ (0 ≤ (1 : Int) ∧ (1 : Int) ≤ 1) → rnt = -1 ∧ ∀ i : Nat, i < 5580 → Gt b3 (2000 + i) = zp_n u.2.1 b3 (2000 + i)) ∧ ∀ q : Nat, q < 2 → (1 : Int) = (q : Int) → (zp_n u.2.1 b5 (2000 + q) = 0 → rnt = -2 ∧ ∀ i : Nat, i < 5580 → Gt b3 (2000 + i) = zp_n u.2.1 b3 (2000 + i)) ∧ (¬ zp_n u.2.1 b5 (2000 + q) = 0 → rnt = 0 ∧ ∀ i : Nat, i < 5580 → Gt b3 (2000 + i) = zp_n u.2.1 b4 (2000 + (5580 * q + i)))
        refine ⟨fun h => absurd ⟨by decide, by decide⟩ h, fun q hq e => ?_⟩
        obtain rfl : q = 1 := by omega
        exact ⟨fun _ => ⟨hrnt, fun i2 _ => (zp_nc hfrt hq3 rfl _).trans (zp_set_ne (Or.inl (zp_pne hq3 hp (by decide))))⟩, fun h => absurd h hc209⟩
  · refine zp_load (pc := 15) hx hb (zd_X12_back (15, .aload_n 0, 1, 0, []) (List.mem_of_getElem? (i := 9) rfl)) rfl (j := 0) rfl ?_
    refine zp_const (pc := 16) hx hb (zd_X12_back (16, .iconst (-1), 1, 0, []) (List.mem_of_getElem? (i := 10) rfl)) rfl rfl ?_
    refine zp_call (pc := 17) (how := 0) (idx := 170) (mi := 183) (S := []) hx hb hE hw heff hrm (zX_te13 hW) rfl (j := 0) rfl rfl (by decide +kernel) (zd_X12_back (17, .invokevirtual 170, 3, 0, []) (List.mem_of_getElem? (i := 11) rfl)) [(a : Int), (-1)] rfl ⟨zp_o2 hp, zp_o0 (by omega) (by omega) (by omega) (by omega), trivial⟩ (Nat.le_of_ble_eq_true rfl) trivial (fun al hal rnt Pt Gt hextt hfrt hokt hcst hpsit => ?_)
    obtain rfl := List.mem_singleton.mp hal
    have hrt := zp_int (hokt _ rfl).1
    obtain ⟨rfl, hrnt⟩ := hpsit
    have hrnt : rnt = (-1) := hrnt
    refine zp_iret (pc := 20) (n := rnt) hx hb hE hQ hU5 rfl (by decide) (zd_X12_back (20, .ireturn, 1, 0, []) (List.mem_of_getElem? (i := 12) rfl)) (j := 0) rfl (zp_o0 (by omega) (by omega) (by omega) (by omega)) ?_
    rw [hps]
    refine ⟨rfl, fun kp c4 c3 h5 h4 h3 => ?_⟩
    have h5 : zp_n u.2.1 a 5 = (kp : Int) := h5
    have h4 : zp_n u.2.1 a 4 = (c4 : Int) := h4
    have h3 : zp_n u.2.1 a 3 = (c3 : Int) := h3
    obtain rfl : b5 = kp := by omega
    obtain rfl : b4 = c4 := by omega
    obtain rfl : b3 = c3 := by omega
    show (¬ (0 ≤ p1 ∧ p1 ≤ 1) → rnt = -1 ∧ ∀ i : Nat, i < 5580 → Gt b3 (2000 + i) = zp_n u.2.1 b3 (2000 + i)) ∧ ∀ q : Nat, q < 2 → p1 = (q : Int) → (zp_n u.2.1 b5 (2000 + q) = 0 → rnt = -2 ∧ ∀ i : Nat, i < 5580 → Gt b3 (2000 + i) = zp_n u.2.1 b3 (2000 + i)) ∧ (¬ zp_n u.2.1 b5 (2000 + q) = 0 → rnt = 0 ∧ ∀ i : Nat, i < 5580 → Gt b3 (2000 + i) = zp_n u.2.1 b4 (2000 + (5580 * q + i)))
    exact ⟨fun _ => ⟨hrnt, fun i2 _ => (zp_nc hfrt hq3 rfl _).trans (zp_set_ne (Or.inl (zp_pne hq3 hp (by decide))))⟩, fun q hq e => absurd (hti.mpr ⟨by omega, by omega⟩) (by omega)⟩
