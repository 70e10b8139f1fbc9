/-! part 56: the parser: next -/
theorem zp_rg0 {n : Int} (h : zk_rg 0 n) : -2147483648 ≤ n ∧ n ≤ 2147483647 := h
def zn3 (srt f t tp : Nat) (v : Int) : Prop := (srt ≠ 0 → srt ≠ 2 → f < t) ∧ (srt = 2 → f < t ∨ (t = f ∧ f < tp ∧ 48 ≤ v ∧ v ≤ 57))
def zn2 (srt f t tp : Nat) (v : Int) : Prop := (srt = 3 → f < t) ∧ (srt = 1 → f < t ∨ (t = f ∧ f < tp ∧ 97 ≤ v ∧ v ≤ 122)) ∧ (srt = 2 → t = f ∧ f < tp ∧ 48 ≤ v ∧ v ≤ 57)
def zK_nx : zk_K := (zt_mn 212, prog_14_method_38_code, 1, (Option.none : Option Jvm.ClassFile.FieldType), 1, 12, [(2, 92, 0, 0)], [(none, [])], [(92, 14, 0), (92, 15, 0), (92, 16, 0), (92, 17, 0)], (1, 25, 0, 0))
def zφ_nx : (Nat → Option Nat) → (Nat → Nat → Int) → List Int → Prop := fun _ G ps => 0 ≤ G (zp_0 ps) 15 ∧ G (zp_0 ps) 15 ≤ G (zp_0 ps) 13
def zψ_nx : (Nat → Option Nat) → (Nat → Nat → Int) → List Int → (Nat → Option Nat) → (Nat → Nat → Int) → Int → Prop := fun P G ps P' G' _ => P' = P ∧ G (zp_0 ps) 15 ≤ G' (zp_0 ps) 14 ∧ G' (zp_0 ps) 14 ≤ G' (zp_0 ps) 15 ∧ G' (zp_0 ps) 15 ≤ G (zp_0 ps) 13 ∧ 0 ≤ G' (zp_0 ps) 16 ∧ G' (zp_0 ps) 16 ≤ 3 ∧ (G' (zp_0 ps) 16 ≠ 0 → G' (zp_0 ps) 14 < G' (zp_0 ps) 15)
theorem zX_nx {l : Launch} {w : zk_W} (hW : zh_W w) : zk_metX l w zt_dv zt_TB zK_nx (zp_A zφ_nx) (zp_B zψ_nx) ∧ zk_cok w zt_TB zK_nx := by
  refine zp_meth hW (pl := 1684) rfl (by decide +kernel) (fun p e R s m args below meth c Q u hx hb hE hQ hU5 heff hnL hok hφ => ?_)
  have hw := hW.1
  obtain ⟨p0, hps, k0⟩ := zp_ps1 hok
  obtain ⟨a, rfl, hp⟩ := zp_this k0
  have hrm : zk_Kr (zk_ev (zp_E zK_nx)) = zk_Kr zK_nx := rfl
  rw [hps] at hφ ⊢
  have hφ : 0 ≤ zp_n u.2.1 a 15 ∧ zp_n u.2.1 a 15 ≤ zp_n u.2.1 a 13 := hφ
  show zp_J p l e R s m args below meth c Q w u [] 0 [(0, 2, (a : Int))] [] u.1 (zp_n u.2.1)
  refine zp_kn (k := 12) (a := a) hw (show zp_fd 92 12 = some (12, 2, 66, 0, 0) from rfl) rfl hp (fun hk12 => ?_)
  obtain ⟨b12, hb12, hq12⟩ := zp_this hk12
  refine zp_kn (k := 13) (a := a) hw (show zp_fd 92 13 = some (12, 0, 0, 0, 400) from rfl) rfl hp (fun hk13 => ?_)
  obtain ⟨tp, htp⟩ := zp_nat (zp_int hk13).1
  have htpb := zp_int hk13
  rw [htp] at htpb
  refine zp_kn (k := 15) (a := a) hw (show zp_fd 92 15 = some (12, 0, 0, 0, 400) from rfl) rfl hp (fun hk15 => ?_)
  obtain ⟨t0, ht0⟩ := zp_nat (zp_int hk15).1
  have ht0b := zp_int hk15
  rw [ht0] at ht0b
  rw [ht0, htp] at hφ
  have hf12 := hb12
  have loop3 : ∀ (n f t srt : Nat), tp - t < n → t0 ≤ f → f ≤ t → t ≤ tp → srt ≤ 3 → zn3 srt f t tp (zp_n u.2.1 b12 (2000 + f)) → ∀ (G : Nat → Nat → Int), G a 13 = (tp : Int) → G a 12 = (b12 : Int) → (∀ j, G b12 j = zp_n u.2.1 b12 j) → G a 14 = (f : Int) → G a 15 = (t : Int) → G a 16 = (srt : Int) → zp_J p l e R s m args below meth c Q w u [] 243 [(0, 2, (a : Int))] [] u.1 G := by
    intro n
    induction n with
    | zero => intro f t srt h; exact absurd h (Nat.not_lt_zero _)
    | succ n ih =>
      intro f t srt hn h0 h1 h2 h3 hz3 G g13 g12 g12e g14 g15 g16
      refine zp_kn (k := 17) (a := a) hw (show zp_fd 92 17 = some (12, 1, 0, (-9223372036854775808), 9223372036854775807) from rfl) rfl hp (fun hk17 => ?_)
      have r17 : zk_rg 1 (G a 17) := hk17.2.2
      refine zp_load (pc := 243) hx hb (zd_X12_next (243, .aload_n 0, 1, 0, []) (List.mem_of_getElem? (i := 123) rfl)) rfl (j := 0) rfl ?_
      refine zp_getf (n := (srt : Int)) (pc := 244) hx hb hE hw (zd_X12_next (244, .getfield 260, 3, 0, []) (List.mem_of_getElem? (i := 124) rfl)) (j := 34) rfl rfl rfl hp g16 ?_
      refine zp_const (pc := 247) hx hb (zd_X12_next (247, .iconst 2, 1, 0, []) (List.mem_of_getElem? (i := 125) rfl)) rfl rfl ?_
      refine zp_icmp (pc := 248) (tgt := 335) hx hb (zd_X12_next (248, .if_icmp .ne 87, 3, 0, []) (List.mem_of_getElem? (i := 126) rfl)) rfl (fun (hc21 : ¬ (srt : Int) = 2) => ?_) (fun (hc21 : ¬ (¬ (srt : Int) = 2)) => ?_)
      · refine zp_vret (pc := 335) hx hb hE hQ hU5 rfl (by decide) (zd_X12_next (335, .return_, 1, 0, []) (List.mem_of_getElem? (i := 169) rfl)) (j := 0) rfl ?_
        rw [hps]
        refine ⟨rfl, ?_⟩
        show zp_n u.2.1 a 15 ≤ G a 14 ∧ G a 14 ≤ G a 15 ∧ G a 15 ≤ zp_n u.2.1 a 13 ∧ 0 ≤ G a 16 ∧ G a 16 ≤ 3 ∧ (G a 16 ≠ 0 → G a 14 < G a 15)
        rw [ht0, htp, g14, g15, g16]
        have he := g12e (2000 + f)
        refine ⟨by omega, by omega, by omega, by omega, by omega, fun hz => ?_⟩
        obtain ⟨h4, h5⟩ := hz3
        by_cases hs2 : srt = 2
        · rcases h5 hs2 with hx | ⟨hx, hy, hz1, hz2⟩
          · clear h4 h5; omega
          · clear h4 h5; subst hx; omega
        · have := h4 (by clear h4 h5; omega) hs2; clear h4 h5; omega
      · refine zp_load (pc := 251) hx hb (zd_X12_next (251, .aload_n 0, 1, 0, []) (List.mem_of_getElem? (i := 127) rfl)) rfl (j := 0) rfl ?_
        refine zp_getf (n := (t : Int)) (pc := 252) hx hb hE hw (zd_X12_next (252, .getfield 237, 3, 0, []) (List.mem_of_getElem? (i := 128) rfl)) (j := 33) rfl rfl rfl hp g15 ?_
        refine zp_load (pc := 255) hx hb (zd_X12_next (255, .aload_n 0, 1, 0, []) (List.mem_of_getElem? (i := 129) rfl)) rfl (j := 0) rfl ?_
        refine zp_getf (n := (tp : Int)) (pc := 256) hx hb hE hw (zd_X12_next (256, .getfield 228, 3, 0, []) (List.mem_of_getElem? (i := 130) rfl)) (j := 31) rfl rfl rfl hp g13 ?_
        refine zp_icmp (pc := 259) (tgt := 335) hx hb (zd_X12_next (259, .if_icmp .ge 76, 3, 0, []) (List.mem_of_getElem? (i := 131) rfl)) rfl (fun (hc22 : (tp : Int) ≤ (t : Int)) => ?_) (fun (hc22 : ¬ ((tp : Int) ≤ (t : Int))) => ?_)
        · refine zp_vret (pc := 335) hx hb hE hQ hU5 rfl (by decide) (zd_X12_next (335, .return_, 1, 0, []) (List.mem_of_getElem? (i := 169) rfl)) (j := 0) rfl ?_
          rw [hps]
          refine ⟨rfl, ?_⟩
          show zp_n u.2.1 a 15 ≤ G a 14 ∧ G a 14 ≤ G a 15 ∧ G a 15 ≤ zp_n u.2.1 a 13 ∧ 0 ≤ G a 16 ∧ G a 16 ≤ 3 ∧ (G a 16 ≠ 0 → G a 14 < G a 15)
          rw [ht0, htp, g14, g15, g16]
          have he := g12e (2000 + f)
          refine ⟨by omega, by omega, by omega, by omega, by omega, fun hz => ?_⟩
          obtain ⟨h4, h5⟩ := hz3
          by_cases hs2 : srt = 2
          · rcases h5 hs2 with hx | ⟨hx, hy, hz1, hz2⟩
            · clear h4 h5; omega
            · clear h4 h5; subst hx; omega
          · have := h4 (by clear h4 h5; omega) hs2; clear h4 h5; omega
        · refine zp_load (pc := 262) hx hb (zd_X12_next (262, .aload_n 0, 1, 0, []) (List.mem_of_getElem? (i := 132) rfl)) rfl (j := 0) rfl ?_
          refine zp_getf (n := (b12 : Int)) (pc := 263) hx hb hE hw (zd_X12_next (263, .getfield 35, 3, 0, []) (List.mem_of_getElem? (i := 133) rfl)) (j := 30) rfl rfl rfl hp g12 ?_
          refine zp_load (pc := 266) hx hb (zd_X12_next (266, .aload_n 0, 1, 0, []) (List.mem_of_getElem? (i := 134) rfl)) rfl (j := 0) rfl ?_
          refine zp_getf (n := (t : Int)) (pc := 267) hx hb hE hw (zd_X12_next (267, .getfield 237, 3, 0, []) (List.mem_of_getElem? (i := 135) rfl)) (j := 33) rfl rfl rfl hp g15 ?_
          refine zp_iald (j := t) (v := (G b12 (2000 + t))) (pc := 270) hx hb hw (zd_X12_next (270, .iaload, 1, 0, []) (List.mem_of_getElem? (i := 136) rfl)) (show zp_ia 1 66 = some (400, 0, 0, 0, 255) from rfl) hq12 (by omega) (by omega) rfl (fun hk23 => ?_)
          have hk23b := zp_int hk23
          refine zp_call (pc := 271) (how := 1) (idx := 257) (mi := 214) (S := []) hx hb hE hw heff hrm (zX_dg hW) rfl (j := 16) rfl rfl (by decide +kernel) (zd_X12_next (271, .invokestatic 257, 3, 0, []) (List.mem_of_getElem? (i := 137) rfl)) [(G b12 (2000 + t))] rfl ⟨zp_o0 (by omega) (by omega) (by omega) (by omega), trivial⟩ (Nat.le_of_ble_eq_true rfl) trivial (fun al hal rnd Pd Gd hextd hfrd hokd hcsd hpsid => ?_)
          obtain rfl := List.mem_singleton.mp hal
          have hrd := zp_int (hokd _ rfl).1
          obtain ⟨hPed, hGed, htd⟩ := hpsid
          rw [hPed, hGed]
          have hud : (48 ≤ (G b12 (2000 + t)) ∧ (G b12 (2000 + t)) ≤ 57) ↔ rnd = 1 := htd
          refine zp_if (pc := 274) (tgt := 335) hx hb (zd_X12_next (274, .ifCond .eq 61, 3, 0, []) (List.mem_of_getElem? (i := 138) rfl)) rfl (fun (hc24 : rnd = 0) => ?_) (fun (hc24 : ¬ (rnd = 0)) => ?_)
          · refine zp_vret (pc := 335) hx hb hE hQ hU5 rfl (by decide) (zd_X12_next (335, .return_, 1, 0, []) (List.mem_of_getElem? (i := 169) rfl)) (j := 0) rfl ?_
            rw [hps]
            refine ⟨rfl, ?_⟩
            show zp_n u.2.1 a 15 ≤ G a 14 ∧ G a 14 ≤ G a 15 ∧ G a 15 ≤ zp_n u.2.1 a 13 ∧ 0 ≤ G a 16 ∧ G a 16 ≤ 3 ∧ (G a 16 ≠ 0 → G a 14 < G a 15)
            rw [ht0, htp, g14, g15, g16]
            have he := g12e (2000 + f)
            refine ⟨by omega, by omega, by omega, by omega, by omega, fun hz => ?_⟩
            obtain ⟨h4, h5⟩ := hz3
            by_cases hs2 : srt = 2
            · rcases h5 hs2 with hx | ⟨hx, hy, hz1, hz2⟩
              · clear h4 h5; omega
              · clear h4 h5; subst hx; omega
            · have := h4 (by clear h4 h5; omega) hs2; clear h4 h5; omega
          · refine zp_load (pc := 277) hx hb (zd_X12_next (277, .aload_n 0, 1, 0, []) (List.mem_of_getElem? (i := 139) rfl)) rfl (j := 0) rfl ?_
            refine zp_load (pc := 278) hx hb (zd_X12_next (278, .aload_n 0, 1, 0, []) (List.mem_of_getElem? (i := 140) rfl)) rfl (j := 0) rfl ?_
            refine zp_getf (n := (G a 17)) (pc := 279) hx hb hE hw (zd_X12_next (279, .getfield 250, 3, 0, []) (List.mem_of_getElem? (i := 141) rfl)) (j := 35) rfl rfl rfl hp rfl ?_
            refine zp_ldc2 (pc := 282) hx hb hE (zd_X12_next (282, .ldc2_w 269, 3, 0, []) (List.mem_of_getElem? (i := 142) rfl)) (j := 93) rfl ?_
            refine zp_lcmp (pc := 285) (tgt := 296) hx hb (zd_X12_next (285, .lcmp, 1, 0, []) (List.mem_of_getElem? (i := 143) rfl)) (zd_X12_next (286, .ifCond .le 10, 3, 0, []) (List.mem_of_getElem? (i := 144) rfl)) rfl (fun (hc25 : (G a 17) ≤ 1000000) => ?_) (fun (hc25 : ¬ ((G a 17) ≤ 1000000)) => ?_)
            · refine zp_load (pc := 296) hx hb (zd_X12_next (296, .aload_n 0, 1, 0, []) (List.mem_of_getElem? (i := 148) rfl)) rfl (j := 0) rfl ?_
              refine zp_getf (n := (G a 17)) (pc := 297) hx hb hE hw (zd_X12_next (297, .getfield 250, 3, 0, []) (List.mem_of_getElem? (i := 149) rfl)) (j := 35) rfl rfl rfl hp rfl ?_
              refine zp_ldc2 (pc := 300) hx hb hE (zd_X12_next (300, .ldc2_w 271, 3, 0, []) (List.mem_of_getElem? (i := 150) rfl)) (j := 94) rfl ?_
              refine zp_lbin (pc := 303) hx hb (zd_X12_next (303, .lmul, 1, 0, []) (List.mem_of_getElem? (i := 151) rfl)) rfl (by decide) (fun x26 r_x26 => ?_)
              refine zp_load (pc := 304) hx hb (zd_X12_next (304, .aload_n 0, 1, 0, []) (List.mem_of_getElem? (i := 152) rfl)) rfl (j := 0) rfl ?_
              refine zp_getf (n := (b12 : Int)) (pc := 305) hx hb hE hw (zd_X12_next (305, .getfield 35, 3, 0, []) (List.mem_of_getElem? (i := 153) rfl)) (j := 30) rfl rfl rfl hp g12 ?_
              refine zp_load (pc := 308) hx hb (zd_X12_next (308, .aload_n 0, 1, 0, []) (List.mem_of_getElem? (i := 154) rfl)) rfl (j := 0) rfl ?_
              refine zp_getf (n := (t : Int)) (pc := 309) hx hb hE hw (zd_X12_next (309, .getfield 237, 3, 0, []) (List.mem_of_getElem? (i := 155) rfl)) (j := 33) rfl rfl rfl hp g15 ?_
              refine zp_iald (j := t) (v := (G b12 (2000 + t))) (pc := 312) hx hb hw (zd_X12_next (312, .iaload, 1, 0, []) (List.mem_of_getElem? (i := 156) rfl)) (show zp_ia 1 66 = some (400, 0, 0, 0, 255) from rfl) hq12 (by omega) (by omega) rfl (fun hk27 => ?_)
              have hk27b := zp_int hk27
              refine zp_i2l (pc := 313) hx hb (zd_X12_next (313, .i2l, 1, 0, []) (List.mem_of_getElem? (i := 157) rfl)) ?_
              refine zp_lbin (pc := 314) hx hb (zd_X12_next (314, .ladd, 1, 0, []) (List.mem_of_getElem? (i := 158) rfl)) rfl (by decide) (fun x28 r_x28 => ?_)
              refine zp_ldc2 (pc := 315) hx hb hE (zd_X12_next (315, .ldc2_w 273, 3, 0, []) (List.mem_of_getElem? (i := 159) rfl)) (j := 95) rfl ?_
              refine zp_lbin (pc := 318) hx hb (zd_X12_next (318, .lsub, 1, 0, []) (List.mem_of_getElem? (i := 160) rfl)) rfl (by decide) (fun x29 r_x29 => ?_)
              refine zp_putf (pc := 319) hx hb hE hw heff (zd_X12_next (319, .putfield 250, 3, 0, []) (List.mem_of_getElem? (i := 161) rfl)) (j := 35) rfl rfl rfl hp (zp_o1 (by first | assumption | exact zp_r1 (by omega) (by omega))) ?_
              refine zp_load (pc := 322) hx hb (zd_X12_next (322, .aload_n 0, 1, 0, []) (List.mem_of_getElem? (i := 162) rfl)) rfl (j := 0) rfl ?_
              refine zp_dup (pc := 323) hx hb (zd_X12_next (323, .dup, 1, 0, []) (List.mem_of_getElem? (i := 163) rfl)) (show (2 : Nat) ≠ 1 by decide) ?_
              refine zp_getf (n := (t : Int)) (pc := 324) hx hb hE hw (zd_X12_next (324, .getfield 237, 3, 0, []) (List.mem_of_getElem? (i := 164) rfl)) (j := 33) rfl rfl rfl hp ((zp_set_ne (Or.inr (by decide))).trans (g15)) ?_
              refine zp_const (pc := 327) hx hb (zd_X12_next (327, .iconst 1, 1, 0, []) (List.mem_of_getElem? (i := 165) rfl)) rfl rfl ?_
              refine zp_add (n := ((t : Int) + 1)) (pc := 328) hx hb (zd_X12_next (328, .iadd, 1, 0, []) (List.mem_of_getElem? (i := 166) rfl)) (by omega) (zp_r0 (by omega) (by omega)) ?_
              refine zp_putf (pc := 329) hx hb hE hw heff (zd_X12_next (329, .putfield 237, 3, 0, []) (List.mem_of_getElem? (i := 167) rfl)) (j := 33) rfl rfl rfl hp (zp_o0 (by omega) (by omega) (by omega) (by omega)) ?_
              refine zp_goto (tgt := 243) (pc := 332) hx hb (zd_X12_next (332, .goto (-89), 3, 0, []) (List.mem_of_getElem? (i := 168) rfl)) rfl ?_
              refine ih f (t + 1) srt (by omega) h0 (by omega) (by omega) h3 ⟨fun _ _ => by omega, fun _ => Or.inl (by omega)⟩ _ ?_ ?_ ?_ ?_ ?_ ?_
              · exact ((zp_set_ne (Or.inr (by decide))).trans ((zp_set_ne (Or.inr (by decide))).trans (g13)))
              · exact ((zp_set_ne (Or.inr (by decide))).trans ((zp_set_ne (Or.inr (by decide))).trans (g12)))
              · intro j
                rw [zp_set_ne (Or.inl (zp_pne hq12 hp (by decide)))]
                rw [zp_set_ne (Or.inl (zp_pne hq12 hp (by decide)))]
                exact g12e j
              · exact ((zp_set_ne (Or.inr (by decide))).trans ((zp_set_ne (Or.inr (by decide))).trans (g14)))
              · exact zp_set_self
              · exact ((zp_set_ne (Or.inr (by decide))).trans ((zp_set_ne (Or.inr (by decide))).trans (g16)))
            · refine zp_load (pc := 289) hx hb (zd_X12_next (289, .aload_n 0, 1, 0, []) (List.mem_of_getElem? (i := 145) rfl)) rfl (j := 0) rfl ?_
              refine zp_getf (n := (G a 17)) (pc := 290) hx hb hE hw (zd_X12_next (290, .getfield 250, 3, 0, []) (List.mem_of_getElem? (i := 146) rfl)) (j := 35) rfl rfl rfl hp rfl ?_
              refine zp_goto (tgt := 319) (pc := 293) hx hb (zd_X12_next (293, .goto 26, 3, 0, []) (List.mem_of_getElem? (i := 147) rfl)) rfl ?_
              refine zp_putf (pc := 319) hx hb hE hw heff (zd_X12_next (319, .putfield 250, 3, 0, []) (List.mem_of_getElem? (i := 161) rfl)) (j := 35) rfl rfl rfl hp (zp_o1 (by first | assumption | exact zp_r1 (by omega) (by omega))) ?_
              refine zp_load (pc := 322) hx hb (zd_X12_next (322, .aload_n 0, 1, 0, []) (List.mem_of_getElem? (i := 162) rfl)) rfl (j := 0) rfl ?_
              refine zp_dup (pc := 323) hx hb (zd_X12_next (323, .dup, 1, 0, []) (List.mem_of_getElem? (i := 163) rfl)) (show (2 : Nat) ≠ 1 by decide) ?_
              refine zp_getf (n := (t : Int)) (pc := 324) hx hb hE hw (zd_X12_next (324, .getfield 237, 3, 0, []) (List.mem_of_getElem? (i := 164) rfl)) (j := 33) rfl rfl rfl hp ((zp_set_ne (Or.inr (by decide))).trans (g15)) ?_
              refine zp_const (pc := 327) hx hb (zd_X12_next (327, .iconst 1, 1, 0, []) (List.mem_of_getElem? (i := 165) rfl)) rfl rfl ?_
              refine zp_add (n := ((t : Int) + 1)) (pc := 328) hx hb (zd_X12_next (328, .iadd, 1, 0, []) (List.mem_of_getElem? (i := 166) rfl)) (by omega) (zp_r0 (by omega) (by omega)) ?_
              refine zp_putf (pc := 329) hx hb hE hw heff (zd_X12_next (329, .putfield 237, 3, 0, []) (List.mem_of_getElem? (i := 167) rfl)) (j := 33) rfl rfl rfl hp (zp_o0 (by omega) (by omega) (by omega) (by omega)) ?_
              refine zp_goto (tgt := 243) (pc := 332) hx hb (zd_X12_next (332, .goto (-89), 3, 0, []) (List.mem_of_getElem? (i := 168) rfl)) rfl ?_
              refine ih f (t + 1) srt (by omega) h0 (by omega) (by omega) h3 ⟨fun _ _ => by omega, fun _ => Or.inl (by omega)⟩ _ ?_ ?_ ?_ ?_ ?_ ?_
              · exact ((zp_set_ne (Or.inr (by decide))).trans ((zp_set_ne (Or.inr (by decide))).trans (g13)))
              · exact ((zp_set_ne (Or.inr (by decide))).trans ((zp_set_ne (Or.inr (by decide))).trans (g12)))
              · intro j
                rw [zp_set_ne (Or.inl (zp_pne hq12 hp (by decide)))]
                rw [zp_set_ne (Or.inl (zp_pne hq12 hp (by decide)))]
                exact g12e j
              · exact ((zp_set_ne (Or.inr (by decide))).trans ((zp_set_ne (Or.inr (by decide))).trans (g14)))
              · exact zp_set_self
              · exact ((zp_set_ne (Or.inr (by decide))).trans ((zp_set_ne (Or.inr (by decide))).trans (g16)))
  have loop2 : ∀ (n f t srt : Nat), tp - t < n → t0 ≤ f → f ≤ t → t ≤ tp → srt ≤ 3 → zn2 srt f t tp (zp_n u.2.1 b12 (2000 + f)) → ∀ (G : Nat → Nat → Int), G a 13 = (tp : Int) → G a 12 = (b12 : Int) → (∀ j, G b12 j = zp_n u.2.1 b12 j) → G a 14 = (f : Int) → G a 15 = (t : Int) → G a 16 = (srt : Int) → zp_J p l e R s m args below meth c Q w u [] 149 [(0, 2, (a : Int))] [] u.1 G := by
    intro n
    induction n with
    | zero => intro f t srt h; exact absurd h (Nat.not_lt_zero _)
    | succ n ih =>
      intro f t srt hn h0 h1 h2 h3 hz2 G g13 g12 g12e g14 g15 g16
      refine zp_load (pc := 149) hx hb (zd_X12_next (149, .aload_n 0, 1, 0, []) (List.mem_of_getElem? (i := 76) rfl)) rfl (j := 0) rfl ?_
      refine zp_getf (n := (srt : Int)) (pc := 150) hx hb hE hw (zd_X12_next (150, .getfield 260, 3, 0, []) (List.mem_of_getElem? (i := 77) rfl)) (j := 34) rfl rfl rfl hp g16 ?_
      refine zp_const (pc := 153) hx hb (zd_X12_next (153, .iconst 1, 1, 0, []) (List.mem_of_getElem? (i := 78) rfl)) rfl rfl ?_
      refine zp_icmp (pc := 154) (tgt := 243) hx hb (zd_X12_next (154, .if_icmp .ne 89, 3, 0, []) (List.mem_of_getElem? (i := 79) rfl)) rfl (fun (hc30 : ¬ (srt : Int) = 1) => ?_) (fun (hc30 : ¬ (¬ (srt : Int) = 1)) => ?_)
      · obtain ⟨h4, h5, h6⟩ := hz2
        refine loop3 (tp + 1) f t srt (by clear h4 h5 h6; omega) h0 h1 h2 h3 ⟨fun hx hy => ?_, fun hx => Or.inr (h6 hx)⟩ G g13 g12 g12e g14 g15 g16
        have he := g12e (2000 + f)
        by_cases hs1 : srt = 1
        · rcases h5 hs1 with hz | ⟨hz, hz1, hz2, hz3⟩
          · exact hz
          · clear h4 h5 h6; subst hz; omega
        · exact h4 (by clear h4 h5 h6; omega)
      · refine zp_load (pc := 157) hx hb (zd_X12_next (157, .aload_n 0, 1, 0, []) (List.mem_of_getElem? (i := 80) rfl)) rfl (j := 0) rfl ?_
        refine zp_getf (n := (t : Int)) (pc := 158) hx hb hE hw (zd_X12_next (158, .getfield 237, 3, 0, []) (List.mem_of_getElem? (i := 81) rfl)) (j := 33) rfl rfl rfl hp g15 ?_
        refine zp_load (pc := 161) hx hb (zd_X12_next (161, .aload_n 0, 1, 0, []) (List.mem_of_getElem? (i := 82) rfl)) rfl (j := 0) rfl ?_
        refine zp_getf (n := (tp : Int)) (pc := 162) hx hb hE hw (zd_X12_next (162, .getfield 228, 3, 0, []) (List.mem_of_getElem? (i := 83) rfl)) (j := 31) rfl rfl rfl hp g13 ?_
        refine zp_icmp (pc := 165) (tgt := 243) hx hb (zd_X12_next (165, .if_icmp .ge 78, 3, 0, []) (List.mem_of_getElem? (i := 84) rfl)) rfl (fun (hc31 : (tp : Int) ≤ (t : Int)) => ?_) (fun (hc31 : ¬ ((tp : Int) ≤ (t : Int))) => ?_)
        · obtain ⟨h4, h5, h6⟩ := hz2
          refine loop3 (tp + 1) f t srt (by clear h4 h5 h6; omega) h0 h1 h2 h3 ⟨fun hx hy => ?_, fun hx => Or.inr (h6 hx)⟩ G g13 g12 g12e g14 g15 g16
          have he := g12e (2000 + f)
          by_cases hs1 : srt = 1
          · rcases h5 hs1 with hz | ⟨hz, hz1, hz2, hz3⟩
            · exact hz
            · clear h4 h5 h6; subst hz; omega
          · exact h4 (by clear h4 h5 h6; omega)
        · refine zp_load (pc := 168) hx hb (zd_X12_next (168, .aload_n 0, 1, 0, []) (List.mem_of_getElem? (i := 85) rfl)) rfl (j := 0) rfl ?_
          refine zp_getf (n := (b12 : Int)) (pc := 169) hx hb hE hw (zd_X12_next (169, .getfield 35, 3, 0, []) (List.mem_of_getElem? (i := 86) rfl)) (j := 30) rfl rfl rfl hp g12 ?_
          refine zp_load (pc := 172) hx hb (zd_X12_next (172, .aload_n 0, 1, 0, []) (List.mem_of_getElem? (i := 87) rfl)) rfl (j := 0) rfl ?_
          refine zp_getf (n := (t : Int)) (pc := 173) hx hb hE hw (zd_X12_next (173, .getfield 237, 3, 0, []) (List.mem_of_getElem? (i := 88) rfl)) (j := 33) rfl rfl rfl hp g15 ?_
          refine zp_iald (j := t) (v := (G b12 (2000 + t))) (pc := 176) hx hb hw (zd_X12_next (176, .iaload, 1, 0, []) (List.mem_of_getElem? (i := 89) rfl)) (show zp_ia 1 66 = some (400, 0, 0, 0, 255) from rfl) hq12 (by omega) (by omega) rfl (fun hk32 => ?_)
          have hk32b := zp_int hk32
          refine zp_call (pc := 177) (how := 1) (idx := 254) (mi := 213) (S := []) hx hb hE hw heff hrm (zX_sm hW) rfl (j := 15) rfl rfl (by decide +kernel) (zd_X12_next (177, .invokestatic 254, 3, 0, []) (List.mem_of_getElem? (i := 90) rfl)) [(G b12 (2000 + t))] rfl ⟨zp_o0 (by omega) (by omega) (by omega) (by omega), trivial⟩ (Nat.le_of_ble_eq_true rfl) trivial (fun al hal rns Ps Gs hexts hfrs hoks hcss hpsis => ?_)
          obtain rfl := List.mem_singleton.mp hal
          have hrs := zp_int (hoks _ rfl).1
          obtain ⟨hPes, hGes, hts⟩ := hpsis
          rw [hPes, hGes]
          have hus : (97 ≤ (G b12 (2000 + t)) ∧ (G b12 (2000 + t)) ≤ 122) ↔ rns = 1 := hts
          refine zp_if (pc := 180) (tgt := 243) hx hb (zd_X12_next (180, .ifCond .eq 63, 3, 0, []) (List.mem_of_getElem? (i := 91) rfl)) rfl (fun (hc33 : rns = 0) => ?_) (fun (hc33 : ¬ (rns = 0)) => ?_)
          · obtain ⟨h4, h5, h6⟩ := hz2
            refine loop3 (tp + 1) f t srt (by clear h4 h5 h6; omega) h0 h1 h2 h3 ⟨fun hx hy => ?_, fun hx => Or.inr (h6 hx)⟩ G g13 g12 g12e g14 g15 g16
            have he := g12e (2000 + f)
            by_cases hs1 : srt = 1
            · rcases h5 hs1 with hz | ⟨hz, hz1, hz2, hz3⟩
              · exact hz
              · clear h4 h5 h6; subst hz; omega
            · exact h4 (by clear h4 h5 h6; omega)
          · refine zp_load (pc := 183) hx hb (zd_X12_next (183, .aload_n 0, 1, 0, []) (List.mem_of_getElem? (i := 92) rfl)) rfl (j := 0) rfl ?_
            refine zp_load (pc := 184) hx hb (zd_X12_next (184, .aload_n 0, 1, 0, []) (List.mem_of_getElem? (i := 93) rfl)) rfl (j := 0) rfl ?_
            refine zp_getf (n := (t : Int)) (pc := 185) hx hb hE hw (zd_X12_next (185, .getfield 237, 3, 0, []) (List.mem_of_getElem? (i := 94) rfl)) (j := 33) rfl rfl rfl hp g15 ?_
            refine zp_load (pc := 188) hx hb (zd_X12_next (188, .aload_n 0, 1, 0, []) (List.mem_of_getElem? (i := 95) rfl)) rfl (j := 0) rfl ?_
            refine zp_getf (n := (f : Int)) (pc := 189) hx hb hE hw (zd_X12_next (189, .getfield 247, 3, 0, []) (List.mem_of_getElem? (i := 96) rfl)) (j := 32) rfl rfl rfl hp g14 ?_
            refine zp_sub (n := ((t : Int) + -1 * (f : Int) + 0)) (pc := 192) hx hb (zd_X12_next (192, .isub, 1, 0, []) (List.mem_of_getElem? (i := 97) rfl)) (by omega) (zp_r0 (by omega) (by omega)) ?_
            refine zp_const (pc := 193) hx hb (zd_X12_next (193, .bipush 10, 2, 0, []) (List.mem_of_getElem? (i := 98) rfl)) rfl rfl ?_
            refine zp_icmp (pc := 195) (tgt := 224) hx hb (zd_X12_next (195, .if_icmp .ge 29, 3, 0, []) (List.mem_of_getElem? (i := 99) rfl)) rfl (fun (hc34 : 10 ≤ ((t : Int) + -1 * (f : Int) + 0)) => ?_) (fun (hc34 : ¬ (10 ≤ ((t : Int) + -1 * (f : Int) + 0))) => ?_)
            · refine zp_ldc2 (pc := 224) hx hb hE (zd_X12_next (224, .ldc2_w 267, 3, 0, []) (List.mem_of_getElem? (i := 114) rfl)) (j := 92) rfl ?_
              refine zp_putf (pc := 227) hx hb hE hw heff (zd_X12_next (227, .putfield 250, 3, 0, []) (List.mem_of_getElem? (i := 115) rfl)) (j := 35) rfl rfl rfl hp (zp_o1 ⟨by decide, by decide⟩) ?_
              refine zp_load (pc := 230) hx hb (zd_X12_next (230, .aload_n 0, 1, 0, []) (List.mem_of_getElem? (i := 116) rfl)) rfl (j := 0) rfl ?_
              refine zp_dup (pc := 231) hx hb (zd_X12_next (231, .dup, 1, 0, []) (List.mem_of_getElem? (i := 117) rfl)) (show (2 : Nat) ≠ 1 by decide) ?_
              refine zp_getf (n := (t : Int)) (pc := 232) hx hb hE hw (zd_X12_next (232, .getfield 237, 3, 0, []) (List.mem_of_getElem? (i := 118) rfl)) (j := 33) rfl rfl rfl hp ((zp_set_ne (Or.inr (by decide))).trans (g15)) ?_
              refine zp_const (pc := 235) hx hb (zd_X12_next (235, .iconst 1, 1, 0, []) (List.mem_of_getElem? (i := 119) rfl)) rfl rfl ?_
              refine zp_add (n := ((t : Int) + 1)) (pc := 236) hx hb (zd_X12_next (236, .iadd, 1, 0, []) (List.mem_of_getElem? (i := 120) rfl)) (by omega) (zp_r0 (by omega) (by omega)) ?_
              refine zp_putf (pc := 237) hx hb hE hw heff (zd_X12_next (237, .putfield 237, 3, 0, []) (List.mem_of_getElem? (i := 121) rfl)) (j := 33) rfl rfl rfl hp (zp_o0 (by omega) (by omega) (by omega) (by omega)) ?_
              refine zp_goto (tgt := 149) (pc := 240) hx hb (zd_X12_next (240, .goto (-91), 3, 0, []) (List.mem_of_getElem? (i := 122) rfl)) rfl ?_
              refine ih f (t + 1) srt (by omega) h0 (by omega) (by omega) h3 ⟨fun _ => by omega, fun _ => Or.inl (by omega), fun hx => by omega⟩ _ ?_ ?_ ?_ ?_ ?_ ?_
              · exact ((zp_set_ne (Or.inr (by decide))).trans ((zp_set_ne (Or.inr (by decide))).trans (g13)))
              · exact ((zp_set_ne (Or.inr (by decide))).trans ((zp_set_ne (Or.inr (by decide))).trans (g12)))
              · intro j
                rw [zp_set_ne (Or.inl (zp_pne hq12 hp (by decide)))]
                rw [zp_set_ne (Or.inl (zp_pne hq12 hp (by decide)))]
                exact g12e j
              · exact ((zp_set_ne (Or.inr (by decide))).trans ((zp_set_ne (Or.inr (by decide))).trans (g14)))
              · exact zp_set_self
              · exact ((zp_set_ne (Or.inr (by decide))).trans ((zp_set_ne (Or.inr (by decide))).trans (g16)))
            · refine zp_load (pc := 198) hx hb (zd_X12_next (198, .aload_n 0, 1, 0, []) (List.mem_of_getElem? (i := 100) rfl)) rfl (j := 0) rfl ?_
              refine zp_getf (n := (G a 17)) (pc := 199) hx hb hE hw (zd_X12_next (199, .getfield 250, 3, 0, []) (List.mem_of_getElem? (i := 101) rfl)) (j := 35) rfl rfl rfl hp rfl ?_
              refine zp_ldc2 (pc := 202) hx hb hE (zd_X12_next (202, .ldc2_w 263, 3, 0, []) (List.mem_of_getElem? (i := 102) rfl)) (j := 90) rfl ?_
              refine zp_lbin (pc := 205) hx hb (zd_X12_next (205, .lmul, 1, 0, []) (List.mem_of_getElem? (i := 103) rfl)) rfl (by decide) (fun x35 r_x35 => ?_)
              refine zp_load (pc := 206) hx hb (zd_X12_next (206, .aload_n 0, 1, 0, []) (List.mem_of_getElem? (i := 104) rfl)) rfl (j := 0) rfl ?_
              refine zp_getf (n := (b12 : Int)) (pc := 207) hx hb hE hw (zd_X12_next (207, .getfield 35, 3, 0, []) (List.mem_of_getElem? (i := 105) rfl)) (j := 30) rfl rfl rfl hp g12 ?_
              refine zp_load (pc := 210) hx hb (zd_X12_next (210, .aload_n 0, 1, 0, []) (List.mem_of_getElem? (i := 106) rfl)) rfl (j := 0) rfl ?_
              refine zp_getf (n := (t : Int)) (pc := 211) hx hb hE hw (zd_X12_next (211, .getfield 237, 3, 0, []) (List.mem_of_getElem? (i := 107) rfl)) (j := 33) rfl rfl rfl hp g15 ?_
              refine zp_iald (j := t) (v := (G b12 (2000 + t))) (pc := 214) hx hb hw (zd_X12_next (214, .iaload, 1, 0, []) (List.mem_of_getElem? (i := 108) rfl)) (show zp_ia 1 66 = some (400, 0, 0, 0, 255) from rfl) hq12 (by omega) (by omega) rfl (fun hk36 => ?_)
              have hk36b := zp_int hk36
              refine zp_i2l (pc := 215) hx hb (zd_X12_next (215, .i2l, 1, 0, []) (List.mem_of_getElem? (i := 109) rfl)) ?_
              refine zp_lbin (pc := 216) hx hb (zd_X12_next (216, .ladd, 1, 0, []) (List.mem_of_getElem? (i := 110) rfl)) rfl (by decide) (fun x37 r_x37 => ?_)
              refine zp_ldc2 (pc := 217) hx hb hE (zd_X12_next (217, .ldc2_w 265, 3, 0, []) (List.mem_of_getElem? (i := 111) rfl)) (j := 91) rfl ?_
              refine zp_lbin (pc := 220) hx hb (zd_X12_next (220, .lsub, 1, 0, []) (List.mem_of_getElem? (i := 112) rfl)) rfl (by decide) (fun x38 r_x38 => ?_)
              refine zp_goto (tgt := 227) (pc := 221) hx hb (zd_X12_next (221, .goto 6, 3, 0, []) (List.mem_of_getElem? (i := 113) rfl)) rfl ?_
              refine zp_putf (pc := 227) hx hb hE hw heff (zd_X12_next (227, .putfield 250, 3, 0, []) (List.mem_of_getElem? (i := 115) rfl)) (j := 35) rfl rfl rfl hp (zp_o1 (by first | assumption | exact zp_r1 (by omega) (by omega))) ?_
              refine zp_load (pc := 230) hx hb (zd_X12_next (230, .aload_n 0, 1, 0, []) (List.mem_of_getElem? (i := 116) rfl)) rfl (j := 0) rfl ?_
              refine zp_dup (pc := 231) hx hb (zd_X12_next (231, .dup, 1, 0, []) (List.mem_of_getElem? (i := 117) rfl)) (show (2 : Nat) ≠ 1 by decide) ?_
              refine zp_getf (n := (t : Int)) (pc := 232) hx hb hE hw (zd_X12_next (232, .getfield 237, 3, 0, []) (List.mem_of_getElem? (i := 118) rfl)) (j := 33) rfl rfl rfl hp ((zp_set_ne (Or.inr (by decide))).trans (g15)) ?_
              refine zp_const (pc := 235) hx hb (zd_X12_next (235, .iconst 1, 1, 0, []) (List.mem_of_getElem? (i := 119) rfl)) rfl rfl ?_
              refine zp_add (n := ((t : Int) + 1)) (pc := 236) hx hb (zd_X12_next (236, .iadd, 1, 0, []) (List.mem_of_getElem? (i := 120) rfl)) (by omega) (zp_r0 (by omega) (by omega)) ?_
              refine zp_putf (pc := 237) hx hb hE hw heff (zd_X12_next (237, .putfield 237, 3, 0, []) (List.mem_of_getElem? (i := 121) rfl)) (j := 33) rfl rfl rfl hp (zp_o0 (by omega) (by omega) (by omega) (by omega)) ?_
              refine zp_goto (tgt := 149) (pc := 240) hx hb (zd_X12_next (240, .goto (-91), 3, 0, []) (List.mem_of_getElem? (i := 122) rfl)) rfl ?_
              refine ih f (t + 1) srt (by omega) h0 (by omega) (by omega) h3 ⟨fun _ => by omega, fun _ => Or.inl (by omega), fun hx => by omega⟩ _ ?_ ?_ ?_ ?_ ?_ ?_
              · exact ((zp_set_ne (Or.inr (by decide))).trans ((zp_set_ne (Or.inr (by decide))).trans (g13)))
              · exact ((zp_set_ne (Or.inr (by decide))).trans ((zp_set_ne (Or.inr (by decide))).trans (g12)))
              · intro j
                rw [zp_set_ne (Or.inl (zp_pne hq12 hp (by decide)))]
                rw [zp_set_ne (Or.inl (zp_pne hq12 hp (by decide)))]
                exact g12e j
              · exact ((zp_set_ne (Or.inr (by decide))).trans ((zp_set_ne (Or.inr (by decide))).trans (g14)))
              · exact zp_set_self
              · exact ((zp_set_ne (Or.inr (by decide))).trans ((zp_set_ne (Or.inr (by decide))).trans (g16)))
  have h46 : ∀ (f : Nat), t0 ≤ f → f ≤ tp → ∀ (G : Nat → Nat → Int), G a 13 = (tp : Int) → G a 12 = (b12 : Int) → (∀ j, G b12 j = zp_n u.2.1 b12 j) → G a 14 = (f : Int) → zp_J p l e R s m args below meth c Q w u [] 46 [(0, 2, (a : Int))] [] u.1 G := by
    intro f h0 h1 G g13 g12 g12e g14
    refine zp_load (pc := 46) hx hb (zd_X12_next (46, .aload_n 0, 1, 0, []) (List.mem_of_getElem? (i := 23) rfl)) rfl (j := 0) rfl ?_
    refine zp_load (pc := 47) hx hb (zd_X12_next (47, .aload_n 0, 1, 0, []) (List.mem_of_getElem? (i := 24) rfl)) rfl (j := 0) rfl ?_
    refine zp_getf (n := (f : Int)) (pc := 48) hx hb hE hw (zd_X12_next (48, .getfield 247, 3, 0, []) (List.mem_of_getElem? (i := 25) rfl)) (j := 32) rfl rfl rfl hp g14 ?_
    refine zp_putf (pc := 51) hx hb hE hw heff (zd_X12_next (51, .putfield 237, 3, 0, []) (List.mem_of_getElem? (i := 26) rfl)) (j := 33) rfl rfl rfl hp (zp_o0 (by omega) (by omega) (by omega) (by omega)) ?_
    refine zp_load (pc := 54) hx hb (zd_X12_next (54, .aload_n 0, 1, 0, []) (List.mem_of_getElem? (i := 27) rfl)) rfl (j := 0) rfl ?_
    refine zp_const (pc := 55) hx hb (zd_X12_next (55, .lconst 0, 1, 0, []) (List.mem_of_getElem? (i := 28) rfl)) rfl rfl ?_
    refine zp_putf (pc := 56) hx hb hE hw heff (zd_X12_next (56, .putfield 250, 3, 0, []) (List.mem_of_getElem? (i := 29) rfl)) (j := 35) rfl rfl rfl hp (zp_o1 ⟨by decide, by decide⟩) ?_
    refine zp_load (pc := 59) hx hb (zd_X12_next (59, .aload_n 0, 1, 0, []) (List.mem_of_getElem? (i := 30) rfl)) rfl (j := 0) rfl ?_
    refine zp_load (pc := 60) hx hb (zd_X12_next (60, .aload_n 0, 1, 0, []) (List.mem_of_getElem? (i := 31) rfl)) rfl (j := 0) rfl ?_
    refine zp_getf (n := (f : Int)) (pc := 61) hx hb hE hw (zd_X12_next (61, .getfield 247, 3, 0, []) (List.mem_of_getElem? (i := 32) rfl)) (j := 32) rfl rfl rfl hp ((zp_set_ne (Or.inr (by decide))).trans ((zp_set_ne (Or.inr (by decide))).trans (g14))) ?_
    refine zp_load (pc := 64) hx hb (zd_X12_next (64, .aload_n 0, 1, 0, []) (List.mem_of_getElem? (i := 33) rfl)) rfl (j := 0) rfl ?_
    refine zp_getf (n := (tp : Int)) (pc := 65) hx hb hE hw (zd_X12_next (65, .getfield 228, 3, 0, []) (List.mem_of_getElem? (i := 34) rfl)) (j := 31) rfl rfl rfl hp ((zp_set_ne (Or.inr (by decide))).trans ((zp_set_ne (Or.inr (by decide))).trans (g13))) ?_
    refine zp_icmp (pc := 68) (tgt := 75) hx hb (zd_X12_next (68, .if_icmp .ne 7, 3, 0, []) (List.mem_of_getElem? (i := 35) rfl)) rfl (fun (hc39 : ¬ (f : Int) = (tp : Int)) => ?_) (fun (hc39 : ¬ (¬ (f : Int) = (tp : Int))) => ?_)
    · refine zp_load (pc := 75) hx hb (zd_X12_next (75, .aload_n 0, 1, 0, []) (List.mem_of_getElem? (i := 38) rfl)) rfl (j := 0) rfl ?_
      refine zp_getf (n := (b12 : Int)) (pc := 76) hx hb hE hw (zd_X12_next (76, .getfield 35, 3, 0, []) (List.mem_of_getElem? (i := 39) rfl)) (j := 30) rfl rfl rfl hp ((zp_set_ne (Or.inr (by decide))).trans ((zp_set_ne (Or.inr (by decide))).trans (g12))) ?_
      refine zp_load (pc := 79) hx hb (zd_X12_next (79, .aload_n 0, 1, 0, []) (List.mem_of_getElem? (i := 40) rfl)) rfl (j := 0) rfl ?_
      refine zp_getf (n := (f : Int)) (pc := 80) hx hb hE hw (zd_X12_next (80, .getfield 247, 3, 0, []) (List.mem_of_getElem? (i := 41) rfl)) (j := 32) rfl rfl rfl hp ((zp_set_ne (Or.inr (by decide))).trans ((zp_set_ne (Or.inr (by decide))).trans (g14))) ?_
      refine zp_iald (j := f) (v := (G b12 (2000 + f))) (pc := 83) hx hb hw (zd_X12_next (83, .iaload, 1, 0, []) (List.mem_of_getElem? (i := 42) rfl)) (show zp_ia 1 66 = some (400, 0, 0, 0, 255) from rfl) hq12 (by omega) (by omega) ((zp_set_ne (Or.inl (zp_pne hq12 hp (by decide)))).trans ((zp_set_ne (Or.inl (zp_pne hq12 hp (by decide)))))) (fun hk40 => ?_)
      have hk40b := zp_int hk40
      refine zp_call (pc := 84) (how := 1) (idx := 254) (mi := 213) (S := [(2, (a : Int))]) hx hb hE hw heff hrm (zX_sm hW) rfl (j := 15) rfl rfl (by decide +kernel) (zd_X12_next (84, .invokestatic 254, 3, 0, []) (List.mem_of_getElem? (i := 43) rfl)) [(G b12 (2000 + f))] rfl ⟨zp_o0 (by omega) (by omega) (by omega) (by omega), trivial⟩ (Nat.le_of_ble_eq_true rfl) trivial (fun al hal rns Ps Gs hexts hfrs hoks hcss hpsis => ?_)
      obtain rfl := List.mem_singleton.mp hal
      have hrs := zp_int (hoks _ rfl).1
      obtain ⟨hPes, hGes, hts⟩ := hpsis
      rw [hPes, hGes]
      have hus : (97 ≤ (G b12 (2000 + f)) ∧ (G b12 (2000 + f)) ≤ 122) ↔ rns = 1 := hts
      refine zp_if (pc := 87) (tgt := 94) hx hb (zd_X12_next (87, .ifCond .eq 7, 3, 0, []) (List.mem_of_getElem? (i := 44) rfl)) rfl (fun (hc41 : rns = 0) => ?_) (fun (hc41 : ¬ (rns = 0)) => ?_)
      · refine zp_load (pc := 94) hx hb (zd_X12_next (94, .aload_n 0, 1, 0, []) (List.mem_of_getElem? (i := 47) rfl)) rfl (j := 0) rfl ?_
        refine zp_getf (n := (b12 : Int)) (pc := 95) hx hb hE hw (zd_X12_next (95, .getfield 35, 3, 0, []) (List.mem_of_getElem? (i := 48) rfl)) (j := 30) rfl rfl rfl hp ((zp_set_ne (Or.inr (by decide))).trans ((zp_set_ne (Or.inr (by decide))).trans (g12))) ?_
        refine zp_load (pc := 98) hx hb (zd_X12_next (98, .aload_n 0, 1, 0, []) (List.mem_of_getElem? (i := 49) rfl)) rfl (j := 0) rfl ?_
        refine zp_getf (n := (f : Int)) (pc := 99) hx hb hE hw (zd_X12_next (99, .getfield 247, 3, 0, []) (List.mem_of_getElem? (i := 50) rfl)) (j := 32) rfl rfl rfl hp ((zp_set_ne (Or.inr (by decide))).trans ((zp_set_ne (Or.inr (by decide))).trans (g14))) ?_
        refine zp_iald (j := f) (v := (G b12 (2000 + f))) (pc := 102) hx hb hw (zd_X12_next (102, .iaload, 1, 0, []) (List.mem_of_getElem? (i := 51) rfl)) (show zp_ia 1 66 = some (400, 0, 0, 0, 255) from rfl) hq12 (by omega) (by omega) ((zp_set_ne (Or.inl (zp_pne hq12 hp (by decide)))).trans ((zp_set_ne (Or.inl (zp_pne hq12 hp (by decide)))))) (fun hk42 => ?_)
        have hk42b := zp_int hk42
        refine zp_call (pc := 103) (how := 1) (idx := 257) (mi := 214) (S := [(2, (a : Int))]) hx hb hE hw heff hrm (zX_dg hW) rfl (j := 16) rfl rfl (by decide +kernel) (zd_X12_next (103, .invokestatic 257, 3, 0, []) (List.mem_of_getElem? (i := 52) rfl)) [(G b12 (2000 + f))] rfl ⟨zp_o0 (by omega) (by omega) (by omega) (by omega), trivial⟩ (Nat.le_of_ble_eq_true rfl) trivial (fun al hal rnd Pd Gd hextd hfrd hokd hcsd hpsid => ?_)
        obtain rfl := List.mem_singleton.mp hal
        have hrd := zp_int (hokd _ rfl).1
        obtain ⟨hPed, hGed, htd⟩ := hpsid
        rw [hPed, hGed]
        have hud : (48 ≤ (G b12 (2000 + f)) ∧ (G b12 (2000 + f)) ≤ 57) ↔ rnd = 1 := htd
        refine zp_if (pc := 106) (tgt := 113) hx hb (zd_X12_next (106, .ifCond .eq 7, 3, 0, []) (List.mem_of_getElem? (i := 53) rfl)) rfl (fun (hc43 : rnd = 0) => ?_) (fun (hc43 : ¬ (rnd = 0)) => ?_)
        · refine zp_const (pc := 113) hx hb (zd_X12_next (113, .iconst 3, 1, 0, []) (List.mem_of_getElem? (i := 56) rfl)) rfl rfl ?_
          refine zp_putf (pc := 114) hx hb hE hw heff (zd_X12_next (114, .putfield 260, 3, 0, []) (List.mem_of_getElem? (i := 57) rfl)) (j := 34) rfl rfl rfl hp (zp_o0 (by decide) (by decide) (by decide) (by decide)) ?_
          refine zp_load (pc := 117) hx hb (zd_X12_next (117, .aload_n 0, 1, 0, []) (List.mem_of_getElem? (i := 58) rfl)) rfl (j := 0) rfl ?_
          refine zp_getf (n := 3) (pc := 118) hx hb hE hw (zd_X12_next (118, .getfield 260, 3, 0, []) (List.mem_of_getElem? (i := 59) rfl)) (j := 34) rfl rfl rfl hp zp_set_self ?_
          refine zp_const (pc := 121) hx hb (zd_X12_next (121, .iconst 3, 1, 0, []) (List.mem_of_getElem? (i := 60) rfl)) rfl rfl ?_
          refine zp_icmp (pc := 122) (tgt := 149) hx hb (zd_X12_next (122, .if_icmp .ne 27, 3, 0, []) (List.mem_of_getElem? (i := 61) rfl)) rfl (fun (hc44 : ¬ 3 = 3) => ?_) (fun (hc44 : ¬ (¬ 3 = 3)) => ?_)
          · exfalso
            omega
          · refine zp_load (pc := 125) hx hb (zd_X12_next (125, .aload_n 0, 1, 0, []) (List.mem_of_getElem? (i := 62) rfl)) rfl (j := 0) rfl ?_
            refine zp_load (pc := 126) hx hb (zd_X12_next (126, .aload_n 0, 1, 0, []) (List.mem_of_getElem? (i := 63) rfl)) rfl (j := 0) rfl ?_
            refine zp_getf (n := (b12 : Int)) (pc := 127) hx hb hE hw (zd_X12_next (127, .getfield 35, 3, 0, []) (List.mem_of_getElem? (i := 64) rfl)) (j := 30) rfl rfl rfl hp ((zp_set_ne (Or.inr (by decide))).trans ((zp_set_ne (Or.inr (by decide))).trans ((zp_set_ne (Or.inr (by decide))).trans (g12)))) ?_
            refine zp_load (pc := 130) hx hb (zd_X12_next (130, .aload_n 0, 1, 0, []) (List.mem_of_getElem? (i := 65) rfl)) rfl (j := 0) rfl ?_
            refine zp_getf (n := (f : Int)) (pc := 131) hx hb hE hw (zd_X12_next (131, .getfield 247, 3, 0, []) (List.mem_of_getElem? (i := 66) rfl)) (j := 32) rfl rfl rfl hp ((zp_set_ne (Or.inr (by decide))).trans ((zp_set_ne (Or.inr (by decide))).trans ((zp_set_ne (Or.inr (by decide))).trans (g14)))) ?_
            refine zp_iald (j := f) (v := (G b12 (2000 + f))) (pc := 134) hx hb hw (zd_X12_next (134, .iaload, 1, 0, []) (List.mem_of_getElem? (i := 67) rfl)) (show zp_ia 1 66 = some (400, 0, 0, 0, 255) from rfl) hq12 (by omega) (by omega) ((zp_set_ne (Or.inl (zp_pne hq12 hp (by decide)))).trans ((zp_set_ne (Or.inl (zp_pne hq12 hp (by decide)))).trans ((zp_set_ne (Or.inl (zp_pne hq12 hp (by decide))))))) (fun hk45 => ?_)
            have hk45b := zp_int hk45
            refine zp_i2l (pc := 135) hx hb (zd_X12_next (135, .i2l, 1, 0, []) (List.mem_of_getElem? (i := 68) rfl)) ?_
            refine zp_putf (pc := 136) hx hb hE hw heff (zd_X12_next (136, .putfield 250, 3, 0, []) (List.mem_of_getElem? (i := 69) rfl)) (j := 35) rfl rfl rfl hp (zp_o1 (by first | assumption | exact zp_r1 (by omega) (by omega))) ?_
            refine zp_load (pc := 139) hx hb (zd_X12_next (139, .aload_n 0, 1, 0, []) (List.mem_of_getElem? (i := 70) rfl)) rfl (j := 0) rfl ?_
            refine zp_dup (pc := 140) hx hb (zd_X12_next (140, .dup, 1, 0, []) (List.mem_of_getElem? (i := 71) rfl)) (show (2 : Nat) ≠ 1 by decide) ?_
            refine zp_getf (n := (f : Int)) (pc := 141) hx hb hE hw (zd_X12_next (141, .getfield 237, 3, 0, []) (List.mem_of_getElem? (i := 72) rfl)) (j := 33) rfl rfl rfl hp ((zp_set_ne (Or.inr (by decide))).trans ((zp_set_ne (Or.inr (by decide))).trans ((zp_set_ne (Or.inr (by decide))).trans (zp_set_self)))) ?_
            refine zp_const (pc := 144) hx hb (zd_X12_next (144, .iconst 1, 1, 0, []) (List.mem_of_getElem? (i := 73) rfl)) rfl rfl ?_
            refine zp_add (n := ((f : Int) + 1)) (pc := 145) hx hb (zd_X12_next (145, .iadd, 1, 0, []) (List.mem_of_getElem? (i := 74) rfl)) (by omega) (zp_r0 (by omega) (by omega)) ?_
            refine zp_putf (pc := 146) hx hb hE hw heff (zd_X12_next (146, .putfield 237, 3, 0, []) (List.mem_of_getElem? (i := 75) rfl)) (j := 33) rfl rfl rfl hp (zp_o0 (by omega) (by omega) (by omega) (by omega)) ?_
            refine loop2 (tp + 1) f (f + 1) 3 (by omega) h0 (by omega) (by omega) (by omega) ⟨fun hx => ?_, fun hx => ?_, fun hx => ?_⟩ _ ?_ ?_ ?_ ?_ ?_ ?_
            · omega
            · have he := g12e (2000 + f)
              exact absurd hx (by decide)
            · have he := g12e (2000 + f)
              exact absurd hx (by decide)
            · exact ((zp_set_ne (Or.inr (by decide))).trans ((zp_set_ne (Or.inr (by decide))).trans ((zp_set_ne (Or.inr (by decide))).trans ((zp_set_ne (Or.inr (by decide))).trans ((zp_set_ne (Or.inr (by decide))).trans (g13))))))
            · exact ((zp_set_ne (Or.inr (by decide))).trans ((zp_set_ne (Or.inr (by decide))).trans ((zp_set_ne (Or.inr (by decide))).trans ((zp_set_ne (Or.inr (by decide))).trans ((zp_set_ne (Or.inr (by decide))).trans (g12))))))
            · intro j
              rw [zp_set_ne (Or.inl (zp_pne hq12 hp (by decide)))]
              rw [zp_set_ne (Or.inl (zp_pne hq12 hp (by decide)))]
              rw [zp_set_ne (Or.inl (zp_pne hq12 hp (by decide)))]
              rw [zp_set_ne (Or.inl (zp_pne hq12 hp (by decide)))]
              rw [zp_set_ne (Or.inl (zp_pne hq12 hp (by decide)))]
              exact g12e j
            · exact ((zp_set_ne (Or.inr (by decide))).trans ((zp_set_ne (Or.inr (by decide))).trans ((zp_set_ne (Or.inr (by decide))).trans ((zp_set_ne (Or.inr (by decide))).trans ((zp_set_ne (Or.inr (by decide))).trans (g14))))))
            · exact zp_set_self
            · exact ((zp_set_ne (Or.inr (by decide))).trans ((zp_set_ne (Or.inr (by decide))).trans (zp_set_self)))
        · refine zp_const (pc := 109) hx hb (zd_X12_next (109, .iconst 2, 1, 0, []) (List.mem_of_getElem? (i := 54) rfl)) rfl rfl ?_
          refine zp_goto (tgt := 114) (pc := 110) hx hb (zd_X12_next (110, .goto 4, 3, 0, []) (List.mem_of_getElem? (i := 55) rfl)) rfl ?_
          refine zp_putf (pc := 114) hx hb hE hw heff (zd_X12_next (114, .putfield 260, 3, 0, []) (List.mem_of_getElem? (i := 57) rfl)) (j := 34) rfl rfl rfl hp (zp_o0 (by decide) (by decide) (by decide) (by decide)) ?_
          refine zp_load (pc := 117) hx hb (zd_X12_next (117, .aload_n 0, 1, 0, []) (List.mem_of_getElem? (i := 58) rfl)) rfl (j := 0) rfl ?_
          refine zp_getf (n := 2) (pc := 118) hx hb hE hw (zd_X12_next (118, .getfield 260, 3, 0, []) (List.mem_of_getElem? (i := 59) rfl)) (j := 34) rfl rfl rfl hp zp_set_self ?_
          refine zp_const (pc := 121) hx hb (zd_X12_next (121, .iconst 3, 1, 0, []) (List.mem_of_getElem? (i := 60) rfl)) rfl rfl ?_
          refine zp_icmp (pc := 122) (tgt := 149) hx hb (zd_X12_next (122, .if_icmp .ne 27, 3, 0, []) (List.mem_of_getElem? (i := 61) rfl)) rfl (fun (hc46 : ¬ 2 = 3) => ?_) (fun (hc46 : ¬ (¬ 2 = 3)) => ?_)
          · refine loop2 (tp + 1) f f 2 (by omega) h0 (by omega) (by omega) (by omega) ⟨fun hx => ?_, fun hx => ?_, fun hx => ?_⟩ _ ?_ ?_ ?_ ?_ ?_ ?_
            · exact absurd hx (by decide)
            · have he := g12e (2000 + f)
              exact absurd hx (by decide)
            · have he := g12e (2000 + f)
              exact ⟨rfl, by omega, by omega, by omega⟩
            · exact ((zp_set_ne (Or.inr (by decide))).trans ((zp_set_ne (Or.inr (by decide))).trans ((zp_set_ne (Or.inr (by decide))).trans (g13))))
            · exact ((zp_set_ne (Or.inr (by decide))).trans ((zp_set_ne (Or.inr (by decide))).trans ((zp_set_ne (Or.inr (by decide))).trans (g12))))
            · intro j
              rw [zp_set_ne (Or.inl (zp_pne hq12 hp (by decide)))]
              rw [zp_set_ne (Or.inl (zp_pne hq12 hp (by decide)))]
              rw [zp_set_ne (Or.inl (zp_pne hq12 hp (by decide)))]
              exact g12e j
            · exact ((zp_set_ne (Or.inr (by decide))).trans ((zp_set_ne (Or.inr (by decide))).trans ((zp_set_ne (Or.inr (by decide))).trans (g14))))
            · exact ((zp_set_ne (Or.inr (by decide))).trans ((zp_set_ne (Or.inr (by decide))).trans (zp_set_self)))
            · exact zp_set_self
          · refine zp_load (pc := 125) hx hb (zd_X12_next (125, .aload_n 0, 1, 0, []) (List.mem_of_getElem? (i := 62) rfl)) rfl (j := 0) rfl ?_
            refine zp_load (pc := 126) hx hb (zd_X12_next (126, .aload_n 0, 1, 0, []) (List.mem_of_getElem? (i := 63) rfl)) rfl (j := 0) rfl ?_
            refine zp_getf (n := (b12 : Int)) (pc := 127) hx hb hE hw (zd_X12_next (127, .getfield 35, 3, 0, []) (List.mem_of_getElem? (i := 64) rfl)) (j := 30) rfl rfl rfl hp ((zp_set_ne (Or.inr (by decide))).trans ((zp_set_ne (Or.inr (by decide))).trans ((zp_set_ne (Or.inr (by decide))).trans (g12)))) ?_
            refine zp_load (pc := 130) hx hb (zd_X12_next (130, .aload_n 0, 1, 0, []) (List.mem_of_getElem? (i := 65) rfl)) rfl (j := 0) rfl ?_
            refine zp_getf (n := (f : Int)) (pc := 131) hx hb hE hw (zd_X12_next (131, .getfield 247, 3, 0, []) (List.mem_of_getElem? (i := 66) rfl)) (j := 32) rfl rfl rfl hp ((zp_set_ne (Or.inr (by decide))).trans ((zp_set_ne (Or.inr (by decide))).trans ((zp_set_ne (Or.inr (by decide))).trans (g14)))) ?_
            refine zp_iald (j := f) (v := (G b12 (2000 + f))) (pc := 134) hx hb hw (zd_X12_next (134, .iaload, 1, 0, []) (List.mem_of_getElem? (i := 67) rfl)) (show zp_ia 1 66 = some (400, 0, 0, 0, 255) from rfl) hq12 (by omega) (by omega) ((zp_set_ne (Or.inl (zp_pne hq12 hp (by decide)))).trans ((zp_set_ne (Or.inl (zp_pne hq12 hp (by decide)))).trans ((zp_set_ne (Or.inl (zp_pne hq12 hp (by decide))))))) (fun hk47 => ?_)
            have hk47b := zp_int hk47
            refine zp_i2l (pc := 135) hx hb (zd_X12_next (135, .i2l, 1, 0, []) (List.mem_of_getElem? (i := 68) rfl)) ?_
            refine zp_putf (pc := 136) hx hb hE hw heff (zd_X12_next (136, .putfield 250, 3, 0, []) (List.mem_of_getElem? (i := 69) rfl)) (j := 35) rfl rfl rfl hp (zp_o1 (by first | assumption | exact zp_r1 (by omega) (by omega))) ?_
            refine zp_load (pc := 139) hx hb (zd_X12_next (139, .aload_n 0, 1, 0, []) (List.mem_of_getElem? (i := 70) rfl)) rfl (j := 0) rfl ?_
            refine zp_dup (pc := 140) hx hb (zd_X12_next (140, .dup, 1, 0, []) (List.mem_of_getElem? (i := 71) rfl)) (show (2 : Nat) ≠ 1 by decide) ?_
            refine zp_getf (n := (f : Int)) (pc := 141) hx hb hE hw (zd_X12_next (141, .getfield 237, 3, 0, []) (List.mem_of_getElem? (i := 72) rfl)) (j := 33) rfl rfl rfl hp ((zp_set_ne (Or.inr (by decide))).trans ((zp_set_ne (Or.inr (by decide))).trans ((zp_set_ne (Or.inr (by decide))).trans (zp_set_self)))) ?_
            refine zp_const (pc := 144) hx hb (zd_X12_next (144, .iconst 1, 1, 0, []) (List.mem_of_getElem? (i := 73) rfl)) rfl rfl ?_
            refine zp_add (n := ((f : Int) + 1)) (pc := 145) hx hb (zd_X12_next (145, .iadd, 1, 0, []) (List.mem_of_getElem? (i := 74) rfl)) (by omega) (zp_r0 (by omega) (by omega)) ?_
            refine zp_putf (pc := 146) hx hb hE hw heff (zd_X12_next (146, .putfield 237, 3, 0, []) (List.mem_of_getElem? (i := 75) rfl)) (j := 33) rfl rfl rfl hp (zp_o0 (by omega) (by omega) (by omega) (by omega)) ?_
            exfalso
            omega
      · refine zp_const (pc := 90) hx hb (zd_X12_next (90, .iconst 1, 1, 0, []) (List.mem_of_getElem? (i := 45) rfl)) rfl rfl ?_
        refine zp_goto (tgt := 114) (pc := 91) hx hb (zd_X12_next (91, .goto 23, 3, 0, []) (List.mem_of_getElem? (i := 46) rfl)) rfl ?_
        refine zp_putf (pc := 114) hx hb hE hw heff (zd_X12_next (114, .putfield 260, 3, 0, []) (List.mem_of_getElem? (i := 57) rfl)) (j := 34) rfl rfl rfl hp (zp_o0 (by decide) (by decide) (by decide) (by decide)) ?_
        refine zp_load (pc := 117) hx hb (zd_X12_next (117, .aload_n 0, 1, 0, []) (List.mem_of_getElem? (i := 58) rfl)) rfl (j := 0) rfl ?_
        refine zp_getf (n := 1) (pc := 118) hx hb hE hw (zd_X12_next (118, .getfield 260, 3, 0, []) (List.mem_of_getElem? (i := 59) rfl)) (j := 34) rfl rfl rfl hp zp_set_self ?_
        refine zp_const (pc := 121) hx hb (zd_X12_next (121, .iconst 3, 1, 0, []) (List.mem_of_getElem? (i := 60) rfl)) rfl rfl ?_
        refine zp_icmp (pc := 122) (tgt := 149) hx hb (zd_X12_next (122, .if_icmp .ne 27, 3, 0, []) (List.mem_of_getElem? (i := 61) rfl)) rfl (fun (hc48 : ¬ 1 = 3) => ?_) (fun (hc48 : ¬ (¬ 1 = 3)) => ?_)
        · refine loop2 (tp + 1) f f 1 (by omega) h0 (by omega) (by omega) (by omega) ⟨fun hx => ?_, fun hx => ?_, fun hx => ?_⟩ _ ?_ ?_ ?_ ?_ ?_ ?_
          · exact absurd hx (by decide)
          · have he := g12e (2000 + f)
            exact Or.inr ⟨rfl, by omega, by omega, by omega⟩
          · have he := g12e (2000 + f)
            exact absurd hx (by decide)
          · exact ((zp_set_ne (Or.inr (by decide))).trans ((zp_set_ne (Or.inr (by decide))).trans ((zp_set_ne (Or.inr (by decide))).trans (g13))))
          · exact ((zp_set_ne (Or.inr (by decide))).trans ((zp_set_ne (Or.inr (by decide))).trans ((zp_set_ne (Or.inr (by decide))).trans (g12))))
          · intro j
            rw [zp_set_ne (Or.inl (zp_pne hq12 hp (by decide)))]
            rw [zp_set_ne (Or.inl (zp_pne hq12 hp (by decide)))]
            rw [zp_set_ne (Or.inl (zp_pne hq12 hp (by decide)))]
            exact g12e j
          · exact ((zp_set_ne (Or.inr (by decide))).trans ((zp_set_ne (Or.inr (by decide))).trans ((zp_set_ne (Or.inr (by decide))).trans (g14))))
          · exact ((zp_set_ne (Or.inr (by decide))).trans ((zp_set_ne (Or.inr (by decide))).trans (zp_set_self)))
          · exact zp_set_self
        · refine zp_load (pc := 125) hx hb (zd_X12_next (125, .aload_n 0, 1, 0, []) (List.mem_of_getElem? (i := 62) rfl)) rfl (j := 0) rfl ?_
          refine zp_load (pc := 126) hx hb (zd_X12_next (126, .aload_n 0, 1, 0, []) (List.mem_of_getElem? (i := 63) rfl)) rfl (j := 0) rfl ?_
          refine zp_getf (n := (b12 : Int)) (pc := 127) hx hb hE hw (zd_X12_next (127, .getfield 35, 3, 0, []) (List.mem_of_getElem? (i := 64) rfl)) (j := 30) rfl rfl rfl hp ((zp_set_ne (Or.inr (by decide))).trans ((zp_set_ne (Or.inr (by decide))).trans ((zp_set_ne (Or.inr (by decide))).trans (g12)))) ?_
          refine zp_load (pc := 130) hx hb (zd_X12_next (130, .aload_n 0, 1, 0, []) (List.mem_of_getElem? (i := 65) rfl)) rfl (j := 0) rfl ?_
          refine zp_getf (n := (f : Int)) (pc := 131) hx hb hE hw (zd_X12_next (131, .getfield 247, 3, 0, []) (List.mem_of_getElem? (i := 66) rfl)) (j := 32) rfl rfl rfl hp ((zp_set_ne (Or.inr (by decide))).trans ((zp_set_ne (Or.inr (by decide))).trans ((zp_set_ne (Or.inr (by decide))).trans (g14)))) ?_
          refine zp_iald (j := f) (v := (G b12 (2000 + f))) (pc := 134) hx hb hw (zd_X12_next (134, .iaload, 1, 0, []) (List.mem_of_getElem? (i := 67) rfl)) (show zp_ia 1 66 = some (400, 0, 0, 0, 255) from rfl) hq12 (by omega) (by omega) ((zp_set_ne (Or.inl (zp_pne hq12 hp (by decide)))).trans ((zp_set_ne (Or.inl (zp_pne hq12 hp (by decide)))).trans ((zp_set_ne (Or.inl (zp_pne hq12 hp (by decide))))))) (fun hk49 => ?_)
          have hk49b := zp_int hk49
          refine zp_i2l (pc := 135) hx hb (zd_X12_next (135, .i2l, 1, 0, []) (List.mem_of_getElem? (i := 68) rfl)) ?_
          refine zp_putf (pc := 136) hx hb hE hw heff (zd_X12_next (136, .putfield 250, 3, 0, []) (List.mem_of_getElem? (i := 69) rfl)) (j := 35) rfl rfl rfl hp (zp_o1 (by first | assumption | exact zp_r1 (by omega) (by omega))) ?_
          refine zp_load (pc := 139) hx hb (zd_X12_next (139, .aload_n 0, 1, 0, []) (List.mem_of_getElem? (i := 70) rfl)) rfl (j := 0) rfl ?_
          refine zp_dup (pc := 140) hx hb (zd_X12_next (140, .dup, 1, 0, []) (List.mem_of_getElem? (i := 71) rfl)) (show (2 : Nat) ≠ 1 by decide) ?_
          refine zp_getf (n := (f : Int)) (pc := 141) hx hb hE hw (zd_X12_next (141, .getfield 237, 3, 0, []) (List.mem_of_getElem? (i := 72) rfl)) (j := 33) rfl rfl rfl hp ((zp_set_ne (Or.inr (by decide))).trans ((zp_set_ne (Or.inr (by decide))).trans ((zp_set_ne (Or.inr (by decide))).trans (zp_set_self)))) ?_
          refine zp_const (pc := 144) hx hb (zd_X12_next (144, .iconst 1, 1, 0, []) (List.mem_of_getElem? (i := 73) rfl)) rfl rfl ?_
          refine zp_add (n := ((f : Int) + 1)) (pc := 145) hx hb (zd_X12_next (145, .iadd, 1, 0, []) (List.mem_of_getElem? (i := 74) rfl)) (by omega) (zp_r0 (by omega) (by omega)) ?_
          refine zp_putf (pc := 146) hx hb hE hw heff (zd_X12_next (146, .putfield 237, 3, 0, []) (List.mem_of_getElem? (i := 75) rfl)) (j := 33) rfl rfl rfl hp (zp_o0 (by omega) (by omega) (by omega) (by omega)) ?_
          exfalso
          omega
    · refine zp_const (pc := 71) hx hb (zd_X12_next (71, .iconst 0, 1, 0, []) (List.mem_of_getElem? (i := 36) rfl)) rfl rfl ?_
      refine zp_goto (tgt := 114) (pc := 72) hx hb (zd_X12_next (72, .goto 42, 3, 0, []) (List.mem_of_getElem? (i := 37) rfl)) rfl ?_
      refine zp_putf (pc := 114) hx hb hE hw heff (zd_X12_next (114, .putfield 260, 3, 0, []) (List.mem_of_getElem? (i := 57) rfl)) (j := 34) rfl rfl rfl hp (zp_o0 (by decide) (by decide) (by decide) (by decide)) ?_
      refine zp_load (pc := 117) hx hb (zd_X12_next (117, .aload_n 0, 1, 0, []) (List.mem_of_getElem? (i := 58) rfl)) rfl (j := 0) rfl ?_
      refine zp_getf (n := 0) (pc := 118) hx hb hE hw (zd_X12_next (118, .getfield 260, 3, 0, []) (List.mem_of_getElem? (i := 59) rfl)) (j := 34) rfl rfl rfl hp zp_set_self ?_
      refine zp_const (pc := 121) hx hb (zd_X12_next (121, .iconst 3, 1, 0, []) (List.mem_of_getElem? (i := 60) rfl)) rfl rfl ?_
      refine zp_icmp (pc := 122) (tgt := 149) hx hb (zd_X12_next (122, .if_icmp .ne 27, 3, 0, []) (List.mem_of_getElem? (i := 61) rfl)) rfl (fun (hc50 : ¬ 0 = 3) => ?_) (fun (hc50 : ¬ (¬ 0 = 3)) => ?_)
      · refine loop2 (tp + 1) f f 0 (by omega) h0 (by omega) (by omega) (by omega) ⟨fun hx => ?_, fun hx => ?_, fun hx => ?_⟩ _ ?_ ?_ ?_ ?_ ?_ ?_
        · exact absurd hx (by decide)
        · have he := g12e (2000 + f)
          exact absurd hx (by decide)
        · have he := g12e (2000 + f)
          exact absurd hx (by decide)
        · exact ((zp_set_ne (Or.inr (by decide))).trans ((zp_set_ne (Or.inr (by decide))).trans ((zp_set_ne (Or.inr (by decide))).trans (g13))))
        · exact ((zp_set_ne (Or.inr (by decide))).trans ((zp_set_ne (Or.inr (by decide))).trans ((zp_set_ne (Or.inr (by decide))).trans (g12))))
        · intro j
          rw [zp_set_ne (Or.inl (zp_pne hq12 hp (by decide)))]
          rw [zp_set_ne (Or.inl (zp_pne hq12 hp (by decide)))]
          rw [zp_set_ne (Or.inl (zp_pne hq12 hp (by decide)))]
          exact g12e j
        · exact ((zp_set_ne (Or.inr (by decide))).trans ((zp_set_ne (Or.inr (by decide))).trans ((zp_set_ne (Or.inr (by decide))).trans (g14))))
        · exact ((zp_set_ne (Or.inr (by decide))).trans ((zp_set_ne (Or.inr (by decide))).trans (zp_set_self)))
        · exact zp_set_self
      · refine zp_load (pc := 125) hx hb (zd_X12_next (125, .aload_n 0, 1, 0, []) (List.mem_of_getElem? (i := 62) rfl)) rfl (j := 0) rfl ?_
        refine zp_load (pc := 126) hx hb (zd_X12_next (126, .aload_n 0, 1, 0, []) (List.mem_of_getElem? (i := 63) rfl)) rfl (j := 0) rfl ?_
        refine zp_getf (n := (b12 : Int)) (pc := 127) hx hb hE hw (zd_X12_next (127, .getfield 35, 3, 0, []) (List.mem_of_getElem? (i := 64) rfl)) (j := 30) rfl rfl rfl hp ((zp_set_ne (Or.inr (by decide))).trans ((zp_set_ne (Or.inr (by decide))).trans ((zp_set_ne (Or.inr (by decide))).trans (g12)))) ?_
        refine zp_load (pc := 130) hx hb (zd_X12_next (130, .aload_n 0, 1, 0, []) (List.mem_of_getElem? (i := 65) rfl)) rfl (j := 0) rfl ?_
        refine zp_getf (n := (f : Int)) (pc := 131) hx hb hE hw (zd_X12_next (131, .getfield 247, 3, 0, []) (List.mem_of_getElem? (i := 66) rfl)) (j := 32) rfl rfl rfl hp ((zp_set_ne (Or.inr (by decide))).trans ((zp_set_ne (Or.inr (by decide))).trans ((zp_set_ne (Or.inr (by decide))).trans (g14)))) ?_
        refine zp_iald (j := f) (v := (G b12 (2000 + f))) (pc := 134) hx hb hw (zd_X12_next (134, .iaload, 1, 0, []) (List.mem_of_getElem? (i := 67) rfl)) (show zp_ia 1 66 = some (400, 0, 0, 0, 255) from rfl) hq12 (by omega) (by omega) ((zp_set_ne (Or.inl (zp_pne hq12 hp (by decide)))).trans ((zp_set_ne (Or.inl (zp_pne hq12 hp (by decide)))).trans ((zp_set_ne (Or.inl (zp_pne hq12 hp (by decide))))))) (fun hk51 => ?_)
        have hk51b := zp_int hk51
        refine zp_i2l (pc := 135) hx hb (zd_X12_next (135, .i2l, 1, 0, []) (List.mem_of_getElem? (i := 68) rfl)) ?_
        refine zp_putf (pc := 136) hx hb hE hw heff (zd_X12_next (136, .putfield 250, 3, 0, []) (List.mem_of_getElem? (i := 69) rfl)) (j := 35) rfl rfl rfl hp (zp_o1 (by first | assumption | exact zp_r1 (by omega) (by omega))) ?_
        refine zp_load (pc := 139) hx hb (zd_X12_next (139, .aload_n 0, 1, 0, []) (List.mem_of_getElem? (i := 70) rfl)) rfl (j := 0) rfl ?_
        refine zp_dup (pc := 140) hx hb (zd_X12_next (140, .dup, 1, 0, []) (List.mem_of_getElem? (i := 71) rfl)) (show (2 : Nat) ≠ 1 by decide) ?_
        refine zp_getf (n := (f : Int)) (pc := 141) hx hb hE hw (zd_X12_next (141, .getfield 237, 3, 0, []) (List.mem_of_getElem? (i := 72) rfl)) (j := 33) rfl rfl rfl hp ((zp_set_ne (Or.inr (by decide))).trans ((zp_set_ne (Or.inr (by decide))).trans ((zp_set_ne (Or.inr (by decide))).trans (zp_set_self)))) ?_
        refine zp_const (pc := 144) hx hb (zd_X12_next (144, .iconst 1, 1, 0, []) (List.mem_of_getElem? (i := 73) rfl)) rfl rfl ?_
        refine zp_add (n := ((f : Int) + 1)) (pc := 145) hx hb (zd_X12_next (145, .iadd, 1, 0, []) (List.mem_of_getElem? (i := 74) rfl)) (by omega) (zp_r0 (by omega) (by omega)) ?_
        refine zp_putf (pc := 146) hx hb hE hw heff (zd_X12_next (146, .putfield 237, 3, 0, []) (List.mem_of_getElem? (i := 75) rfl)) (j := 33) rfl rfl rfl hp (zp_o0 (by omega) (by omega) (by omega) (by omega)) ?_
        exfalso
        omega
  have loop1 : ∀ (n f : Nat), tp - f < n → t0 ≤ f → f ≤ tp → ∀ (G : Nat → Nat → Int), G a 13 = (tp : Int) → G a 12 = (b12 : Int) → (∀ j, G b12 j = zp_n u.2.1 b12 j) → G a 14 = (f : Int) → zp_J p l e R s m args below meth c Q w u [] 8 [(0, 2, (a : Int))] [] u.1 G := by
    intro n
    induction n with
    | zero => intro f h; exact absurd h (Nat.not_lt_zero _)
    | succ n ih =>
      intro f hn h0 h1 G g13 g12 g12e g14
      refine zp_load (pc := 8) hx hb (zd_X12_next (8, .aload_n 0, 1, 0, []) (List.mem_of_getElem? (i := 4) rfl)) rfl (j := 0) rfl ?_
      refine zp_getf (n := (f : Int)) (pc := 9) hx hb hE hw (zd_X12_next (9, .getfield 247, 3, 0, []) (List.mem_of_getElem? (i := 5) rfl)) (j := 32) rfl rfl rfl hp g14 ?_
      refine zp_load (pc := 12) hx hb (zd_X12_next (12, .aload_n 0, 1, 0, []) (List.mem_of_getElem? (i := 6) rfl)) rfl (j := 0) rfl ?_
      refine zp_getf (n := (tp : Int)) (pc := 13) hx hb hE hw (zd_X12_next (13, .getfield 228, 3, 0, []) (List.mem_of_getElem? (i := 7) rfl)) (j := 31) rfl rfl rfl hp g13 ?_
      refine zp_icmp (pc := 16) (tgt := 46) hx hb (zd_X12_next (16, .if_icmp .ge 30, 3, 0, []) (List.mem_of_getElem? (i := 8) rfl)) rfl (fun (hc52 : (tp : Int) ≤ (f : Int)) => ?_) (fun (hc52 : ¬ ((tp : Int) ≤ (f : Int))) => ?_)
      · exact h46 f h0 h1 G g13 g12 g12e g14
      · refine zp_load (pc := 19) hx hb (zd_X12_next (19, .aload_n 0, 1, 0, []) (List.mem_of_getElem? (i := 9) rfl)) rfl (j := 0) rfl ?_
        refine zp_getf (n := (b12 : Int)) (pc := 20) hx hb hE hw (zd_X12_next (20, .getfield 35, 3, 0, []) (List.mem_of_getElem? (i := 10) rfl)) (j := 30) rfl rfl rfl hp g12 ?_
        refine zp_load (pc := 23) hx hb (zd_X12_next (23, .aload_n 0, 1, 0, []) (List.mem_of_getElem? (i := 11) rfl)) rfl (j := 0) rfl ?_
        refine zp_getf (n := (f : Int)) (pc := 24) hx hb hE hw (zd_X12_next (24, .getfield 247, 3, 0, []) (List.mem_of_getElem? (i := 12) rfl)) (j := 32) rfl rfl rfl hp g14 ?_
        refine zp_iald (j := f) (v := (G b12 (2000 + f))) (pc := 27) hx hb hw (zd_X12_next (27, .iaload, 1, 0, []) (List.mem_of_getElem? (i := 13) rfl)) (show zp_ia 1 66 = some (400, 0, 0, 0, 255) from rfl) hq12 (by omega) (by omega) rfl (fun hk53 => ?_)
        have hk53b := zp_int hk53
        refine zp_const (pc := 28) hx hb (zd_X12_next (28, .bipush 32, 2, 0, []) (List.mem_of_getElem? (i := 14) rfl)) rfl rfl ?_
        refine zp_icmp (pc := 30) (tgt := 46) hx hb (zd_X12_next (30, .if_icmp .ne 16, 3, 0, []) (List.mem_of_getElem? (i := 15) rfl)) rfl (fun (hc54 : ¬ (G b12 (2000 + f)) = 32) => ?_) (fun (hc54 : ¬ (¬ (G b12 (2000 + f)) = 32)) => ?_)
        · exact h46 f h0 h1 G g13 g12 g12e g14
        · refine zp_load (pc := 33) hx hb (zd_X12_next (33, .aload_n 0, 1, 0, []) (List.mem_of_getElem? (i := 16) rfl)) rfl (j := 0) rfl ?_
          refine zp_dup (pc := 34) hx hb (zd_X12_next (34, .dup, 1, 0, []) (List.mem_of_getElem? (i := 17) rfl)) (show (2 : Nat) ≠ 1 by decide) ?_
          refine zp_getf (n := (f : Int)) (pc := 35) hx hb hE hw (zd_X12_next (35, .getfield 247, 3, 0, []) (List.mem_of_getElem? (i := 18) rfl)) (j := 32) rfl rfl rfl hp g14 ?_
          refine zp_const (pc := 38) hx hb (zd_X12_next (38, .iconst 1, 1, 0, []) (List.mem_of_getElem? (i := 19) rfl)) rfl rfl ?_
          refine zp_add (n := ((f : Int) + 1)) (pc := 39) hx hb (zd_X12_next (39, .iadd, 1, 0, []) (List.mem_of_getElem? (i := 20) rfl)) (by omega) (zp_r0 (by omega) (by omega)) ?_
          refine zp_putf (pc := 40) hx hb hE hw heff (zd_X12_next (40, .putfield 247, 3, 0, []) (List.mem_of_getElem? (i := 21) rfl)) (j := 32) rfl rfl rfl hp (zp_o0 (by omega) (by omega) (by omega) (by omega)) ?_
          refine zp_goto (tgt := 8) (pc := 43) hx hb (zd_X12_next (43, .goto (-35), 3, 0, []) (List.mem_of_getElem? (i := 22) rfl)) rfl ?_
          refine ih (f + 1) (by omega) (by omega) (by omega) _ ?_ ?_ ?_ ?_
          · exact ((zp_set_ne (Or.inr (by decide))).trans (g13))
          · exact ((zp_set_ne (Or.inr (by decide))).trans (g12))
          · intro j
            rw [zp_set_ne (Or.inl (zp_pne hq12 hp (by decide)))]
            exact g12e j
          · exact zp_set_self
  refine zp_load (pc := 0) hx hb (zd_X12_next (0, .aload_n 0, 1, 0, []) (List.mem_of_getElem? (i := 0) rfl)) rfl (j := 0) rfl ?_
  refine zp_load (pc := 1) hx hb (zd_X12_next (1, .aload_n 0, 1, 0, []) (List.mem_of_getElem? (i := 1) rfl)) rfl (j := 0) rfl ?_
  refine zp_getf (n := (t0 : Int)) (pc := 2) hx hb hE hw (zd_X12_next (2, .getfield 237, 3, 0, []) (List.mem_of_getElem? (i := 2) rfl)) (j := 33) rfl rfl rfl hp ht0 ?_
  refine zp_putf (pc := 5) hx hb hE hw heff (zd_X12_next (5, .putfield 247, 3, 0, []) (List.mem_of_getElem? (i := 3) rfl)) (j := 32) rfl rfl rfl hp (zp_o0 (by omega) (by omega) (by omega) (by omega)) ?_
  refine loop1 (tp + 1) t0 (by omega) (Nat.le_refl _) (by omega) _ ?_ ?_ ?_ ?_
  · exact ((zp_set_ne (Or.inr (by decide))).trans (htp))
  · exact ((zp_set_ne (Or.inr (by decide))).trans (hb12))
  · intro j
    rw [zp_set_ne (Or.inl (zp_pne hq12 hp (by decide)))]
  · exact zp_set_self
