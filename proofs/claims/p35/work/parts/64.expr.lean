/-! part 64: the parser: readExpression, begin, beginText, endText -/
def zx_nb (a : Nat) (G : Nat → Nat → Int) : Prop := ∀ i : Nat, (i : Int) < G a 29 → zv G a 27 i < 31
/-- between two steps of an expression -/
def zx_in (f a : Nat) (t : Int) (G0 G : Nat → Nat → Int) : Prop := zs f (if t ≤ 1 then 0 else 1) (if t = 0 ∨ t = 2 then 0 else 1) a G ∧ (t = 4 → zx_nb a G) ∧ (∀ q, q < f → zv G a 24 q = zv G0 a 24 q ∧ zv G a 25 q = zv G0 a 25 q) ∧ G0 a 14 ≤ G a 14 ∧ (G a 19 = 0 → G0 a 19 = 0)
theorem zx_step {f a : Nat} {t t' : Int} {G0 G G' : Nat → Nat → Int} (h : zx_in f a t G0 G) (h4 : t' ≠ 4) {x sq : Nat} (hx : (if t' ≤ 1 then 0 else 1) = x) (hs : (if t' = 0 ∨ t' = 2 then 0 else 1) = sq) (hg : zs_go a f x sq G G') : zx_in f a t' G0 G' := by
  obtain ⟨-, -, h3, h5, h6⟩ := h
  obtain ⟨g1, g2, g3, g4⟩ := hg
  refine ⟨by rw [hx, hs]; exact g1, fun z => absurd z h4, fun q hq => ⟨(g2 q hq).1.trans (h3 q hq).1, (g2 q hq).2.trans (h3 q hq).2⟩, by omega, fun z => h6 (g4 z).1⟩
def zx_m (t : Int) : Int := if t = 3 then 1 else 0
theorem zs_any {f a : Nat} {G : Nat → Nat → Int} (h : zs f 1 0 a G) : zs f 1 1 a G := by
  obtain ⟨h1, nc, pd, h2, h3, h4, h5⟩ := h
  exact ⟨h1, nc, pd, h2, h3, h4, fun z => ⟨(h5 z).1, fun w => absurd w (by decide), (h5 z).2.2⟩⟩
def zx_tells (a : Nat) (G G' : Nat → Nat → Int) : Prop := zs_tk a G' ∧ G a 14 ≤ G' a 14 ∧ (G' a 19 = 0 → G a 19 = 0) ∧ G a 23 ≤ G' a 23 ∧ G' a 23 ≤ G' a 14 ∧ (∀ q : Nat, (q : Int) < G a 23 → zv G' a 24 q = zv G a 24 q ∧ zv G' a 25 q = zv G a 25 q) ∧ (G' a 19 = 0 → zk_cr (zv G' a 24) (zv G' a 25) (G a 23).toNat (G' a 23).toNat)
def zK_ex : zk_K := (zt_mn 218, prog_14_method_58_code, 3, (Option.none : Option Jvm.ClassFile.FieldType), 1, 12, [(2, 92, 0, 0), (0, 0, 0, 1)], [(none, [])], [(92, 14, 0), (92, 15, 0), (92, 16, 0), (92, 17, 0), (92, 18, 0), (92, 19, 0), (92, 30, 0), (92, 29, 0), (92, 23, 0), (68, 1001, 0), (69, 1001, 0), (70, 1001, 0), (71, 1001, 0), (92, 26, 0)], (6, 280, 0, 0))
def zφ_ex : (Nat → Option Nat) → (Nat → Nat → Int) → List Int → Prop := fun _ G ps => zs_tk (zp_0 ps) G ∧ G (zp_0 ps) 23 ≤ G (zp_0 ps) 14
def zψ_ex : (Nat → Option Nat) → (Nat → Nat → Int) → List Int → (Nat → Option Nat) → (Nat → Nat → Int) → Int → Prop := fun P G ps P' G' rn => P' = P ∧ zx_tells (zp_0 ps) G G'
theorem zX_ex {l : Launch} {w : zk_W} (hW : zh_W w) : zk_metX l w zt_dv zt_TB zK_ex (zp_A zφ_ex) (zp_B zψ_ex) ∧ zk_cok w zt_TB zK_ex := by
  refine zp_meth hW (pl := 1712) rfl (by decide +kernel) (fun p e R s m args below meth c Q u hx hb hE hQ hU5 heff hnL hok hφ => ?_)
  have hw := hW.1
  obtain ⟨p0, p1, hps, k0, k1⟩ := zp_ps2 hok
  obtain ⟨a, rfl, hp⟩ := zp_this k0
  have hrm : zk_Kr (zk_ev (zp_E zK_ex)) = zk_Kr zK_ex := rfl
  rw [hps] at hφ ⊢
  have hi1 := zp_int k1
  have hφ : zs_tk a (zp_n u.2.1) ∧ zp_n u.2.1 a 23 ≤ zp_n u.2.1 a 14 := hφ
  obtain ⟨htk, hle0⟩ := hφ
  show zp_J p l e R s m args below meth c Q w u [] 0 [(0, 2, (a : Int)), (1, 0, p1)] [] u.1 (zp_n u.2.1)
  refine zp_kn (k := 24) (a := a) hw (show zp_fd 92 24 = some (12, 2, 68, 0, 0) from rfl) rfl hp (fun hk24 => ?_)
  obtain ⟨b24, hb24, hq24⟩ := zp_this hk24
  refine zp_kn (k := 25) (a := a) hw (show zp_fd 92 25 = some (12, 2, 69, 0, 0) from rfl) rfl hp (fun hk25 => ?_)
  obtain ⟨b25, hb25, hq25⟩ := zp_this hk25
  refine zp_kn (k := 27) (a := a) hw (show zp_fd 92 27 = some (12, 2, 70, 0, 0) from rfl) rfl hp (fun hk27 => ?_)
  obtain ⟨b27, hb27, hq27⟩ := zp_this hk27
  refine zp_kn (k := 28) (a := a) hw (show zp_fd 92 28 = some (12, 2, 71, 0, 0) from rfl) rfl hp (fun hk28 => ?_)
  obtain ⟨b28, hb28, hq28⟩ := zp_this hk28
  refine zp_kn (k := 23) (a := a) hw (show zp_fd 92 23 = some (12, 0, 0, 0, 400) from rfl) rfl hp (fun hk23 => ?_)
  obtain ⟨nc, hnc⟩ := zp_nat (zp_int hk23).1
  have hncb := zp_int hk23
  rw [hnc] at hncb
  have hex : ∀ (t : Int) (G : Nat → Nat → Int), zx_in nc a t (zp_n u.2.1) G → (G a 19 = 0 → t = 4) → G a 24 = (b24 : Int) → G a 25 = (b25 : Int) → G a 27 = (b27 : Int) → G a 28 = (b28 : Int) → zp_J p l e R s m args below meth c Q w u [] 76 [(2, 0, t), (0, 2, (a : Int)), (1, 0, p1)] [] u.1 G := by
    intro t G hin h4 g24 g25 g27 g28
    obtain ⟨hzs, hnb, hfr0, h14, h19⟩ := hin
    have hzs2 := hzs
    obtain ⟨hgt, n1, d1, e1, e2, e3, e4⟩ := hzs2
    refine zp_kn (k := 13) (a := a) (G := G) hw (show zp_fd 92 13 = some (12, 0, 0, 0, 400) from rfl) rfl hp (fun hk13 => ?_)
    have hx13 := zp_int hk13
    refine zp_kn (k := 19) (a := a) (G := G) hw (show zp_fd 92 19 = some (12, 0, 0, 0, 1) from rfl) rfl hp (fun hk19 => ?_)
    have hx19 := zp_int hk19
    have hgt2 := hgt
    obtain ⟨t1, t2, t3, -, -, -⟩ := hgt2
    have e5 := e3.1
    refine zp_load (pc := 76) hx hb (zd_X12_readExpression (76, .aload_n 0, 1, 0, []) (List.mem_of_getElem? (i := 40) rfl)) rfl (j := 1) rfl ?_
    refine zp_const (pc := 77) hx hb (zd_X12_readExpression (77, .iconst 1, 1, 0, []) (List.mem_of_getElem? (i := 41) rfl)) rfl rfl ?_
    refine zp_call (pc := 78) (how := 0) (idx := 344) (mi := 231) (S := []) hx hb hE hw heff hrm (zX_se hW) rfl (j := 33) rfl rfl (by decide +kernel) (zd_X12_readExpression (78, .invokevirtual 344, 3, 0, []) (List.mem_of_getElem? (i := 42) rfl)) [(a : Int), 1] rfl ⟨zp_o2 hp, zp_o0 (by decide) (by decide) (by decide) (by decide), trivial⟩ (Nat.le_of_ble_eq_true rfl) (show zφ_se u.1 G [(a : Int), 1] from ⟨nc, n1, d1, G a 14, e1, e2, e3, by omega, (show (1 : Int) ≤ 1 by decide)⟩) (fun al hal rns Ps Gs hexts hfrs hoks hcss hpsis => ?_)
    obtain rfl := List.mem_singleton.mp hal
    obtain ⟨rfl, hset, htop⟩ := hpsis
    have hset : zs_set 1 a G Gs := hset
    have htop : ∀ pd' : Nat, Gs a 29 = pd' → pd' = 0 ∨ zbinds (zv G a 27 (pd' - 1)) < 1 := htop
    obtain ⟨n2, d2, ncs, pds, c1, c2, c3, c4, c5, c6, c7, c8, c9, c10⟩ := hset
    obtain rfl : n1 = n2 := by omega
    obtain rfl : d1 = d2 := by omega
    have s13 : Gs a 13 = G a 13 := zp_nf hfrs hp rfl
    have s14 : Gs a 14 = G a 14 := zp_nf hfrs hp rfl
    have s15 : Gs a 15 = G a 15 := zp_nf hfrs hp rfl
    have s16 : Gs a 16 = G a 16 := zp_nf hfrs hp rfl
    have s19 : Gs a 19 = G a 19 := zp_nf hfrs hp rfl
    obtain ⟨y1, y2, y3⟩ := c10 nc (G a 14) e3
    have y4 := y1.2.1
    refine zp_vret (pc := 81) hx hb hE hQ hU5 rfl (by decide) (zd_X12_readExpression (81, .return_, 1, 0, []) (List.mem_of_getElem? (i := 43) rfl)) (j := 0) rfl ?_
    rw [hps]
    refine ⟨rfl, ?_⟩
    show zx_tells a (zp_n u.2.1) Gs
    refine ⟨zs_tk_congr hgt s13 s14 s15 s16, by omega, fun z => h19 (by omega), by omega, by omega, fun q hq => ?_, fun z => ?_⟩
    · have hq2 : q < nc := by omega
      exact ⟨((y2 q hq2).1).trans (hfr0 q hq2).1, ((y2 q hq2).2).trans (hfr0 q hq2).2⟩
    · have hb : G a 19 = 0 := by omega
      have ht4 := h4 hb
      have hbr := hnb ht4
      have hw := (e4 hb).2.2
      rw [ht4] at hw
      have hw := y3 hw
      have hpd : pds = 0 := by
        rcases htop pds c4 with h | h
        · exact h
        · by_cases h0 : pds = 0
          · exact h0
          · have h1 := zi_topb h
            have h2 := hbr (pds - 1) (by omega)
            omega
      subst hpd
      rw [hnc, c3, Int.toNat_natCast, Int.toNat_natCast]
      exact zi_end hw
  have hbx : ∀ (t : Int) (G : Nat → Nat → Int), zx_in nc a t (zp_n u.2.1) G → ¬ G a 19 = 0 → G a 24 = (b24 : Int) → G a 25 = (b25 : Int) → G a 27 = (b27 : Int) → G a 28 = (b28 : Int) → zp_J p l e R s m args below meth c Q w u [] 20 [(2, 0, t), (0, 2, (a : Int)), (1, 0, p1)] [] u.1 G := by
    intro t G hin hbd g24 g25 g27 g28
    refine zp_load (pc := 20) hx hb (zd_X12_readExpression (20, .aload_n 0, 1, 0, []) (List.mem_of_getElem? (i := 12) rfl)) rfl (j := 1) rfl ?_
    refine zp_getf (n := (G a 19)) (pc := 21) hx hb hE hw (zd_X12_readExpression (21, .getfield 240, 3, 0, []) (List.mem_of_getElem? (i := 13) rfl)) (j := 37) rfl rfl rfl hp rfl ?_
    refine zp_if (pc := 24) (tgt := 76) hx hb (zd_X12_readExpression (24, .ifCond .ne 52, 3, 0, []) (List.mem_of_getElem? (i := 14) rfl)) rfl (fun (hc0 : ¬ (G a 19) = 0) => ?_) (fun (hc0 : ¬ (¬ (G a 19) = 0)) => ?_)
    · exact hex t G hin (fun z => absurd z hbd) g24 g25 g27 g28
    · exact absurd hbd hc0
  have h20 : ∀ (G : Nat → Nat → Int), zx_in nc a 4 (zp_n u.2.1) G → G a 24 = (b24 : Int) → G a 25 = (b25 : Int) → G a 27 = (b27 : Int) → G a 28 = (b28 : Int) → zp_J p l e R s m args below meth c Q w u [] 20 [(2, 0, 4), (0, 2, (a : Int)), (1, 0, p1)] [] u.1 G := by
    intro G hin g24 g25 g27 g28
    refine zp_load (pc := 20) hx hb (zd_X12_readExpression (20, .aload_n 0, 1, 0, []) (List.mem_of_getElem? (i := 12) rfl)) rfl (j := 1) rfl ?_
    refine zp_getf (n := (G a 19)) (pc := 21) hx hb hE hw (zd_X12_readExpression (21, .getfield 240, 3, 0, []) (List.mem_of_getElem? (i := 13) rfl)) (j := 37) rfl rfl rfl hp rfl ?_
    refine zp_if (pc := 24) (tgt := 76) hx hb (zd_X12_readExpression (24, .ifCond .ne 52, 3, 0, []) (List.mem_of_getElem? (i := 14) rfl)) rfl (fun (hc0 : ¬ (G a 19) = 0) => ?_) (fun (hc0 : ¬ (¬ (G a 19) = 0)) => ?_)
    · exact hex 4 G hin (fun _ => rfl) g24 g25 g27 g28
    · refine zp_load (pc := 27) hx hb (zd_X12_readExpression (27, .iload_n 2, 1, 0, []) (List.mem_of_getElem? (i := 15) rfl)) rfl (j := 0) rfl ?_
      refine zp_const (pc := 28) hx hb (zd_X12_readExpression (28, .iconst 4, 1, 0, []) (List.mem_of_getElem? (i := 16) rfl)) rfl rfl ?_
      refine zp_icmp (pc := 29) (tgt := 76) hx hb (zd_X12_readExpression (29, .if_icmp .eq 47, 3, 0, []) (List.mem_of_getElem? (i := 17) rfl)) rfl (fun (hc1 : 4 = 4) => ?_) (fun (hc1 : ¬ (4 = 4)) => ?_)
      · exact hex 4 G hin (fun _ => rfl) g24 g25 g27 g28
      · exact absurd rfl hc1
  have m0 : zx_m 0 = 0 := by decide
  have m1 : zx_m 1 = 0 := by decide
  have m2 : zx_m 2 = 0 := by decide
  have m3 : zx_m 3 = 1 := by decide
  have loop : ∀ (n : Nat) (t : Int) (G : Nat → Nat → Int), 2 * (400 - G a 14) + zx_m t < n → (t = 0 ∨ t = 1 ∨ t = 2 ∨ t = 3) → zx_in nc a t (zp_n u.2.1) G → G a 24 = (b24 : Int) → G a 25 = (b25 : Int) → G a 27 = (b27 : Int) → G a 28 = (b28 : Int) → zp_J p l e R s m args below meth c Q w u [] 20 [(2, 0, t), (0, 2, (a : Int)), (1, 0, p1)] [] u.1 G := by
    intro n t G
    induction n generalizing t G with
    | zero =>
      intro hn ht hin g24 g25 g27 g28
      refine zp_kn (k := 13) (a := a) (G := G) hw (show zp_fd 92 13 = some (12, 0, 0, 0, 400) from rfl) rfl hp (fun hk13 => ?_)
      have hx13 := zp_int hk13
      have hin2 := hin
      obtain ⟨hzs, -, -, -, -⟩ := hin2
      have hgt := hzs.1
      obtain ⟨t1, t2, t3, -, -, -⟩ := hgt
      exfalso
      rcases ht with rfl | rfl | rfl | rfl <;> omega
    | succ n ih =>
      intro hn ht hin g24 g25 g27 g28
      refine zp_kn (k := 13) (a := a) (G := G) hw (show zp_fd 92 13 = some (12, 0, 0, 0, 400) from rfl) rfl hp (fun hk13 => ?_)
      have hx13 := zp_int hk13
      have hin2 := hin
      obtain ⟨hzs, -, -, -, -⟩ := hin2
      have hgt := hzs.1
      obtain ⟨t1, t2, t3, -, -, -⟩ := hgt
      by_cases hbad : G a 19 = 0
      rotate_left
      · exact hbx t G hin hbad g24 g25 g27 g28
      rcases ht with rfl | rfl | rfl | rfl
      · have hzs : zs nc 0 0 a G := hzs
        refine zp_load (pc := 20) hx hb (zd_X12_readExpression (20, .aload_n 0, 1, 0, []) (List.mem_of_getElem? (i := 12) rfl)) rfl (j := 1) rfl ?_
        refine zp_getf (n := 0) (pc := 21) hx hb hE hw (zd_X12_readExpression (21, .getfield 240, 3, 0, []) (List.mem_of_getElem? (i := 13) rfl)) (j := 37) rfl rfl rfl hp hbad ?_
        refine zp_if (pc := 24) (tgt := 76) hx hb (zd_X12_readExpression (24, .ifCond .ne 52, 3, 0, []) (List.mem_of_getElem? (i := 14) rfl)) rfl (fun (hc138 : ¬ 0 = 0) => ?_) (fun (hc138 : ¬ (¬ 0 = 0)) => ?_)
        · exfalso
          omega
        · refine zp_load (pc := 27) hx hb (zd_X12_readExpression (27, .iload_n 2, 1, 0, []) (List.mem_of_getElem? (i := 15) rfl)) rfl (j := 0) rfl ?_
          refine zp_const (pc := 28) hx hb (zd_X12_readExpression (28, .iconst 4, 1, 0, []) (List.mem_of_getElem? (i := 16) rfl)) rfl rfl ?_
          refine zp_icmp (pc := 29) (tgt := 76) hx hb (zd_X12_readExpression (29, .if_icmp .eq 47, 3, 0, []) (List.mem_of_getElem? (i := 17) rfl)) rfl (fun (hc139 : 0 = 4) => ?_) (fun (hc139 : ¬ (0 = 4)) => ?_)
          · exfalso
            omega
          · refine zp_load (pc := 32) hx hb (zd_X12_readExpression (32, .iload_n 2, 1, 0, []) (List.mem_of_getElem? (i := 18) rfl)) rfl (j := 0) rfl ?_
            refine zp_if (pc := 33) (tgt := 43) hx hb (zd_X12_readExpression (33, .ifCond .ne 10, 3, 0, []) (List.mem_of_getElem? (i := 19) rfl)) rfl (fun (hc140 : ¬ 0 = 0) => ?_) (fun (hc140 : ¬ (¬ 0 = 0)) => ?_)
            · exfalso
              omega
            · refine zp_load (pc := 36) hx hb (zd_X12_readExpression (36, .aload_n 0, 1, 0, []) (List.mem_of_getElem? (i := 20) rfl)) rfl (j := 1) rfl ?_
              refine zp_call (pc := 37) (how := 0) (idx := 358) (mi := 219) (S := []) hx hb hE hw heff hrm (zX_rl hW) rfl (j := 21) rfl rfl (by decide +kernel) (zd_X12_readExpression (37, .invokevirtual 358, 3, 0, []) (List.mem_of_getElem? (i := 21) rfl)) [(a : Int)] rfl ⟨zp_o2 hp, trivial⟩ (Nat.le_of_ble_eq_true rfl) ⟨nc, hzs⟩ (fun al hal rnr Pr Gr hextr hfrr hokr hcsr hpsir => ?_)
              obtain rfl := List.mem_singleton.mp hal
              have hrr := zp_int (hokr _ rfl).1
              obtain ⟨rfl, hor, hh⟩ := hpsir
              have hh : (rnr = 0 → zs_go a nc 0 0 G Gr) ∧ (rnr = 1 → zs_go a nc 0 1 G Gr) ∧ (rnr = 3 → zs_go a nc 1 1 G Gr) := hh nc hzs
              have k24 : Gr a 24 = (b24 : Int) := (zp_nf hfrr hp rfl).trans g24
              have k25 : Gr a 25 = (b25 : Int) := (zp_nf hfrr hp rfl).trans g25
              have k27 : Gr a 27 = (b27 : Int) := (zp_nf hfrr hp rfl).trans g27
              have k28 : Gr a 28 = (b28 : Int) := (zp_nf hfrr hp rfl).trans g28
              refine zp_goto (tgt := 72) (pc := 40) hx hb (zd_X12_readExpression (40, .goto 32, 3, 0, []) (List.mem_of_getElem? (i := 22) rfl)) rfl ?_
              refine zp_store (L' := [(2, 0, rnr), (0, 2, (a : Int)), (1, 0, p1)]) (pc := 72) hx hb hnL (zd_X12_readExpression (72, .istore_n 2, 1, 0, []) (List.mem_of_getElem? (i := 38) rfl)) rfl rfl rfl ?_
              refine zp_goto (tgt := 20) (pc := 73) hx hb (zd_X12_readExpression (73, .goto (-53), 3, 0, []) (List.mem_of_getElem? (i := 39) rfl)) rfl ?_
              rcases hor with h9 | h9 | h9
              · have h9 : rnr = 0 := h9
                rw [h9]
                have hg : zs_go a nc 0 0 G Gr := hh.1 h9
                by_cases hbr : Gr a 19 = 0
                · exact ih 0 Gr (by have := (hg.2.2.2 hbr).2; omega) (by decide) (zx_step hin (by decide) rfl rfl hg) k24 k25 k27 k28
                · exact hbx 0 Gr (zx_step hin (by decide) rfl rfl hg) hbr k24 k25 k27 k28
              · have h9 : rnr = 1 := h9
                rw [h9]
                have hg : zs_go a nc 0 1 G Gr := hh.2.1 h9
                by_cases hbr : Gr a 19 = 0
                · exact ih 1 Gr (by have := (hg.2.2.2 hbr).2; omega) (by decide) (zx_step hin (by decide) rfl rfl hg) k24 k25 k27 k28
                · exact hbx 1 Gr (zx_step hin (by decide) rfl rfl hg) hbr k24 k25 k27 k28
              · have h9 : rnr = 3 := h9
                rw [h9]
                have hg : zs_go a nc 1 1 G Gr := hh.2.2 h9
                by_cases hbr : Gr a 19 = 0
                · exact ih 3 Gr (by have := (hg.2.2.2 hbr).2; omega) (by decide) (zx_step hin (by decide) rfl rfl hg) k24 k25 k27 k28
                · exact hbx 3 Gr (zx_step hin (by decide) rfl rfl hg) hbr k24 k25 k27 k28
      · have hzs : zs nc 0 1 a G := hzs
        refine zp_load (pc := 20) hx hb (zd_X12_readExpression (20, .aload_n 0, 1, 0, []) (List.mem_of_getElem? (i := 12) rfl)) rfl (j := 1) rfl ?_
        refine zp_getf (n := 0) (pc := 21) hx hb hE hw (zd_X12_readExpression (21, .getfield 240, 3, 0, []) (List.mem_of_getElem? (i := 13) rfl)) (j := 37) rfl rfl rfl hp hbad ?_
        refine zp_if (pc := 24) (tgt := 76) hx hb (zd_X12_readExpression (24, .ifCond .ne 52, 3, 0, []) (List.mem_of_getElem? (i := 14) rfl)) rfl (fun (hc141 : ¬ 0 = 0) => ?_) (fun (hc141 : ¬ (¬ 0 = 0)) => ?_)
        · exfalso
          omega
        · refine zp_load (pc := 27) hx hb (zd_X12_readExpression (27, .iload_n 2, 1, 0, []) (List.mem_of_getElem? (i := 15) rfl)) rfl (j := 0) rfl ?_
          refine zp_const (pc := 28) hx hb (zd_X12_readExpression (28, .iconst 4, 1, 0, []) (List.mem_of_getElem? (i := 16) rfl)) rfl rfl ?_
          refine zp_icmp (pc := 29) (tgt := 76) hx hb (zd_X12_readExpression (29, .if_icmp .eq 47, 3, 0, []) (List.mem_of_getElem? (i := 17) rfl)) rfl (fun (hc142 : 1 = 4) => ?_) (fun (hc142 : ¬ (1 = 4)) => ?_)
          · exfalso
            omega
          · refine zp_load (pc := 32) hx hb (zd_X12_readExpression (32, .iload_n 2, 1, 0, []) (List.mem_of_getElem? (i := 18) rfl)) rfl (j := 0) rfl ?_
            refine zp_if (pc := 33) (tgt := 43) hx hb (zd_X12_readExpression (33, .ifCond .ne 10, 3, 0, []) (List.mem_of_getElem? (i := 19) rfl)) rfl (fun (hc143 : ¬ 1 = 0) => ?_) (fun (hc143 : ¬ (¬ 1 = 0)) => ?_)
            · refine zp_load (pc := 43) hx hb (zd_X12_readExpression (43, .iload_n 2, 1, 0, []) (List.mem_of_getElem? (i := 23) rfl)) rfl (j := 0) rfl ?_
              refine zp_const (pc := 44) hx hb (zd_X12_readExpression (44, .iconst 1, 1, 0, []) (List.mem_of_getElem? (i := 24) rfl)) rfl rfl ?_
              refine zp_icmp (pc := 45) (tgt := 55) hx hb (zd_X12_readExpression (45, .if_icmp .ne 10, 3, 0, []) (List.mem_of_getElem? (i := 25) rfl)) rfl (fun (hc144 : ¬ 1 = 1) => ?_) (fun (hc144 : ¬ (¬ 1 = 1)) => ?_)
              · exfalso
                omega
              · refine zp_load (pc := 48) hx hb (zd_X12_readExpression (48, .aload_n 0, 1, 0, []) (List.mem_of_getElem? (i := 26) rfl)) rfl (j := 1) rfl ?_
                refine zp_call (pc := 49) (how := 0) (idx := 341) (mi := 223) (S := []) hx hb hE hw heff hrm (zX_rp hW) rfl (j := 25) rfl rfl (by decide +kernel) (zd_X12_readExpression (49, .invokevirtual 341, 3, 0, []) (List.mem_of_getElem? (i := 27) rfl)) [(a : Int)] rfl ⟨zp_o2 hp, trivial⟩ (Nat.le_of_ble_eq_true rfl) ⟨nc, 1, hzs⟩ (fun al hal rnr Pr Gr hextr hfrr hokr hcsr hpsir => ?_)
                obtain rfl := List.mem_singleton.mp hal
                have hrr := zp_int (hokr _ rfl).1
                obtain ⟨rfl, hor, hh⟩ := hpsir
                have hh : (rnr = 1 → zs_go a nc 0 1 G Gr) ∧ (rnr = 3 → zs_go a nc 1 1 G Gr) := hh nc 1 hzs
                have k24 : Gr a 24 = (b24 : Int) := (zp_nf hfrr hp rfl).trans g24
                have k25 : Gr a 25 = (b25 : Int) := (zp_nf hfrr hp rfl).trans g25
                have k27 : Gr a 27 = (b27 : Int) := (zp_nf hfrr hp rfl).trans g27
                have k28 : Gr a 28 = (b28 : Int) := (zp_nf hfrr hp rfl).trans g28
                refine zp_goto (tgt := 72) (pc := 52) hx hb (zd_X12_readExpression (52, .goto 20, 3, 0, []) (List.mem_of_getElem? (i := 28) rfl)) rfl ?_
                refine zp_store (L' := [(2, 0, rnr), (0, 2, (a : Int)), (1, 0, p1)]) (pc := 72) hx hb hnL (zd_X12_readExpression (72, .istore_n 2, 1, 0, []) (List.mem_of_getElem? (i := 38) rfl)) rfl rfl rfl ?_
                refine zp_goto (tgt := 20) (pc := 73) hx hb (zd_X12_readExpression (73, .goto (-53), 3, 0, []) (List.mem_of_getElem? (i := 39) rfl)) rfl ?_
                rcases hor with h9 | h9
                · have h9 : rnr = 1 := h9
                  rw [h9]
                  have hg : zs_go a nc 0 1 G Gr := hh.1 h9
                  by_cases hbr : Gr a 19 = 0
                  · exact ih 1 Gr (by have := (hg.2.2.2 hbr).2; omega) (by decide) (zx_step hin (by decide) rfl rfl hg) k24 k25 k27 k28
                  · exact hbx 1 Gr (zx_step hin (by decide) rfl rfl hg) hbr k24 k25 k27 k28
                · have h9 : rnr = 3 := h9
                  rw [h9]
                  have hg : zs_go a nc 1 1 G Gr := hh.2 h9
                  by_cases hbr : Gr a 19 = 0
                  · exact ih 3 Gr (by have := (hg.2.2.2 hbr).2; omega) (by decide) (zx_step hin (by decide) rfl rfl hg) k24 k25 k27 k28
                  · exact hbx 3 Gr (zx_step hin (by decide) rfl rfl hg) hbr k24 k25 k27 k28
            · exfalso
              omega
      · have hzs : zs nc 1 0 a G := hzs
        refine zp_load (pc := 20) hx hb (zd_X12_readExpression (20, .aload_n 0, 1, 0, []) (List.mem_of_getElem? (i := 12) rfl)) rfl (j := 1) rfl ?_
        refine zp_getf (n := 0) (pc := 21) hx hb hE hw (zd_X12_readExpression (21, .getfield 240, 3, 0, []) (List.mem_of_getElem? (i := 13) rfl)) (j := 37) rfl rfl rfl hp hbad ?_
        refine zp_if (pc := 24) (tgt := 76) hx hb (zd_X12_readExpression (24, .ifCond .ne 52, 3, 0, []) (List.mem_of_getElem? (i := 14) rfl)) rfl (fun (hc145 : ¬ 0 = 0) => ?_) (fun (hc145 : ¬ (¬ 0 = 0)) => ?_)
        · exfalso
          omega
        · refine zp_load (pc := 27) hx hb (zd_X12_readExpression (27, .iload_n 2, 1, 0, []) (List.mem_of_getElem? (i := 15) rfl)) rfl (j := 0) rfl ?_
          refine zp_const (pc := 28) hx hb (zd_X12_readExpression (28, .iconst 4, 1, 0, []) (List.mem_of_getElem? (i := 16) rfl)) rfl rfl ?_
          refine zp_icmp (pc := 29) (tgt := 76) hx hb (zd_X12_readExpression (29, .if_icmp .eq 47, 3, 0, []) (List.mem_of_getElem? (i := 17) rfl)) rfl (fun (hc146 : 2 = 4) => ?_) (fun (hc146 : ¬ (2 = 4)) => ?_)
          · exfalso
            omega
          · refine zp_load (pc := 32) hx hb (zd_X12_readExpression (32, .iload_n 2, 1, 0, []) (List.mem_of_getElem? (i := 18) rfl)) rfl (j := 0) rfl ?_
            refine zp_if (pc := 33) (tgt := 43) hx hb (zd_X12_readExpression (33, .ifCond .ne 10, 3, 0, []) (List.mem_of_getElem? (i := 19) rfl)) rfl (fun (hc147 : ¬ 2 = 0) => ?_) (fun (hc147 : ¬ (¬ 2 = 0)) => ?_)
            · refine zp_load (pc := 43) hx hb (zd_X12_readExpression (43, .iload_n 2, 1, 0, []) (List.mem_of_getElem? (i := 23) rfl)) rfl (j := 0) rfl ?_
              refine zp_const (pc := 44) hx hb (zd_X12_readExpression (44, .iconst 1, 1, 0, []) (List.mem_of_getElem? (i := 24) rfl)) rfl rfl ?_
              refine zp_icmp (pc := 45) (tgt := 55) hx hb (zd_X12_readExpression (45, .if_icmp .ne 10, 3, 0, []) (List.mem_of_getElem? (i := 25) rfl)) rfl (fun (hc148 : ¬ 2 = 1) => ?_) (fun (hc148 : ¬ (¬ 2 = 1)) => ?_)
              · refine zp_load (pc := 55) hx hb (zd_X12_readExpression (55, .iload_n 2, 1, 0, []) (List.mem_of_getElem? (i := 29) rfl)) rfl (j := 0) rfl ?_
                refine zp_const (pc := 56) hx hb (zd_X12_readExpression (56, .iconst 3, 1, 0, []) (List.mem_of_getElem? (i := 30) rfl)) rfl rfl ?_
                refine zp_icmp (pc := 57) (tgt := 68) hx hb (zd_X12_readExpression (57, .if_icmp .ne 11, 3, 0, []) (List.mem_of_getElem? (i := 31) rfl)) rfl (fun (hc149 : ¬ 2 = 3) => ?_) (fun (hc149 : ¬ (¬ 2 = 3)) => ?_)
                · refine zp_load (pc := 68) hx hb (zd_X12_readExpression (68, .aload_n 0, 1, 0, []) (List.mem_of_getElem? (i := 36) rfl)) rfl (j := 1) rfl ?_
                  refine zp_call (pc := 69) (how := 0) (idx := 365) (mi := 234) (S := []) hx hb hE hw heff hrm (zX_bt hW) rfl (j := 36) rfl rfl (by decide +kernel) (zd_X12_readExpression (69, .invokevirtual 365, 3, 0, []) (List.mem_of_getElem? (i := 37) rfl)) [(a : Int)] rfl ⟨zp_o2 hp, trivial⟩ (Nat.le_of_ble_eq_true rfl) ⟨nc, hzs⟩ (fun al hal rnr Pr Gr hextr hfrr hokr hcsr hpsir => ?_)
                  obtain rfl := List.mem_singleton.mp hal
                  have hrr := zp_int (hokr _ rfl).1
                  obtain ⟨rfl, hor, h4, hh⟩ := hpsir
                  have hh : (rnr = 0 → zs_go a nc 0 0 G Gr) ∧ (rnr = 2 → zs_go a nc 1 0 G Gr) := hh nc hzs
                  have h4 : rnr = 4 → Gr = G ∧ ∀ i : Nat, (i : Int) < G a 29 → zv G a 27 i < 31 := h4
                  have k24 : Gr a 24 = (b24 : Int) := (zp_nf hfrr hp rfl).trans g24
                  have k25 : Gr a 25 = (b25 : Int) := (zp_nf hfrr hp rfl).trans g25
                  have k27 : Gr a 27 = (b27 : Int) := (zp_nf hfrr hp rfl).trans g27
                  have k28 : Gr a 28 = (b28 : Int) := (zp_nf hfrr hp rfl).trans g28
                  refine zp_store (L' := [(2, 0, rnr), (0, 2, (a : Int)), (1, 0, p1)]) (pc := 72) hx hb hnL (zd_X12_readExpression (72, .istore_n 2, 1, 0, []) (List.mem_of_getElem? (i := 38) rfl)) rfl rfl rfl ?_
                  refine zp_goto (tgt := 20) (pc := 73) hx hb (zd_X12_readExpression (73, .goto (-53), 3, 0, []) (List.mem_of_getElem? (i := 39) rfl)) rfl ?_
                  rcases hor with h9 | h9 | h9
                  · have h9 : rnr = 0 := h9
                    rw [h9]
                    have hg : zs_go a nc 0 0 G Gr := hh.1 h9
                    by_cases hbr : Gr a 19 = 0
                    · exact ih 0 Gr (by have := (hg.2.2.2 hbr).2; omega) (by decide) (zx_step hin (by decide) rfl rfl hg) k24 k25 k27 k28
                    · exact hbx 0 Gr (zx_step hin (by decide) rfl rfl hg) hbr k24 k25 k27 k28
                  · have h9 : rnr = 2 := h9
                    rw [h9]
                    have hg : zs_go a nc 1 0 G Gr := hh.2 h9
                    by_cases hbr : Gr a 19 = 0
                    · exact ih 2 Gr (by have := (hg.2.2.2 hbr).2; omega) (by decide) (zx_step hin (by decide) rfl rfl hg) k24 k25 k27 k28
                    · exact hbx 2 Gr (zx_step hin (by decide) rfl rfl hg) hbr k24 k25 k27 k28
                  · have h9 : rnr = 4 := h9
                    rw [h9]
                    obtain ⟨hG, hnb⟩ := h4 h9
                    rw [hG]
                    exact h20 G ⟨zs_any hzs, fun _ => hnb, hin.2.2.1, hin.2.2.2.1, hin.2.2.2.2⟩ g24 g25 g27 g28
                · exfalso
                  omega
              · exfalso
                omega
            · exfalso
              omega
      · have hzs : zs nc 1 1 a G := hzs
        refine zp_load (pc := 20) hx hb (zd_X12_readExpression (20, .aload_n 0, 1, 0, []) (List.mem_of_getElem? (i := 12) rfl)) rfl (j := 1) rfl ?_
        refine zp_getf (n := 0) (pc := 21) hx hb hE hw (zd_X12_readExpression (21, .getfield 240, 3, 0, []) (List.mem_of_getElem? (i := 13) rfl)) (j := 37) rfl rfl rfl hp hbad ?_
        refine zp_if (pc := 24) (tgt := 76) hx hb (zd_X12_readExpression (24, .ifCond .ne 52, 3, 0, []) (List.mem_of_getElem? (i := 14) rfl)) rfl (fun (hc150 : ¬ 0 = 0) => ?_) (fun (hc150 : ¬ (¬ 0 = 0)) => ?_)
        · exfalso
          omega
        · refine zp_load (pc := 27) hx hb (zd_X12_readExpression (27, .iload_n 2, 1, 0, []) (List.mem_of_getElem? (i := 15) rfl)) rfl (j := 0) rfl ?_
          refine zp_const (pc := 28) hx hb (zd_X12_readExpression (28, .iconst 4, 1, 0, []) (List.mem_of_getElem? (i := 16) rfl)) rfl rfl ?_
          refine zp_icmp (pc := 29) (tgt := 76) hx hb (zd_X12_readExpression (29, .if_icmp .eq 47, 3, 0, []) (List.mem_of_getElem? (i := 17) rfl)) rfl (fun (hc151 : 3 = 4) => ?_) (fun (hc151 : ¬ (3 = 4)) => ?_)
          · exfalso
            omega
          · refine zp_load (pc := 32) hx hb (zd_X12_readExpression (32, .iload_n 2, 1, 0, []) (List.mem_of_getElem? (i := 18) rfl)) rfl (j := 0) rfl ?_
            refine zp_if (pc := 33) (tgt := 43) hx hb (zd_X12_readExpression (33, .ifCond .ne 10, 3, 0, []) (List.mem_of_getElem? (i := 19) rfl)) rfl (fun (hc152 : ¬ 3 = 0) => ?_) (fun (hc152 : ¬ (¬ 3 = 0)) => ?_)
            · refine zp_load (pc := 43) hx hb (zd_X12_readExpression (43, .iload_n 2, 1, 0, []) (List.mem_of_getElem? (i := 23) rfl)) rfl (j := 0) rfl ?_
              refine zp_const (pc := 44) hx hb (zd_X12_readExpression (44, .iconst 1, 1, 0, []) (List.mem_of_getElem? (i := 24) rfl)) rfl rfl ?_
              refine zp_icmp (pc := 45) (tgt := 55) hx hb (zd_X12_readExpression (45, .if_icmp .ne 10, 3, 0, []) (List.mem_of_getElem? (i := 25) rfl)) rfl (fun (hc153 : ¬ 3 = 1) => ?_) (fun (hc153 : ¬ (¬ 3 = 1)) => ?_)
              · refine zp_load (pc := 55) hx hb (zd_X12_readExpression (55, .iload_n 2, 1, 0, []) (List.mem_of_getElem? (i := 29) rfl)) rfl (j := 0) rfl ?_
                refine zp_const (pc := 56) hx hb (zd_X12_readExpression (56, .iconst 3, 1, 0, []) (List.mem_of_getElem? (i := 30) rfl)) rfl rfl ?_
                refine zp_icmp (pc := 57) (tgt := 68) hx hb (zd_X12_readExpression (57, .if_icmp .ne 11, 3, 0, []) (List.mem_of_getElem? (i := 31) rfl)) rfl (fun (hc154 : ¬ 3 = 3) => ?_) (fun (hc154 : ¬ (¬ 3 = 3)) => ?_)
                · exfalso
                  omega
                · refine zp_load (pc := 60) hx hb (zd_X12_readExpression (60, .aload_n 0, 1, 0, []) (List.mem_of_getElem? (i := 32) rfl)) rfl (j := 1) rfl ?_
                  refine zp_load (pc := 61) hx hb (zd_X12_readExpression (61, .iload_n 1, 1, 0, []) (List.mem_of_getElem? (i := 33) rfl)) rfl (j := 2) rfl ?_
                  refine zp_call (pc := 62) (how := 0) (idx := 361) (mi := 229) (S := []) hx hb hE hw heff hrm (zX_bs hW) rfl (j := 31) rfl rfl (by decide +kernel) (zd_X12_readExpression (62, .invokevirtual 361, 3, 0, []) (List.mem_of_getElem? (i := 34) rfl)) [(a : Int), p1] rfl ⟨zp_o2 hp, k1, trivial⟩ (Nat.le_of_ble_eq_true rfl) ⟨nc, hzs⟩ (fun al hal rnr Pr Gr hextr hfrr hokr hcsr hpsir => ?_)
                  obtain rfl := List.mem_singleton.mp hal
                  have hrr := zp_int (hokr _ rfl).1
                  obtain ⟨rfl, hor, h2, h4, hh⟩ := hpsir
                  have hh : (rnr = 1 → zs_go a nc 0 1 G Gr) ∧ (rnr = 3 → zs_go a nc 1 1 G Gr) ∧ (rnr = 2 → G a 19 = 0 → zs nc 1 0 a G) := hh nc hzs
                  have h4 : rnr = 4 → Gr = G ∧ ∀ i : Nat, (i : Int) < G a 29 → zv G a 27 i < 31 := h4
                  have h2 : rnr = 2 → Gr = G := h2
                  have k24 : Gr a 24 = (b24 : Int) := (zp_nf hfrr hp rfl).trans g24
                  have k25 : Gr a 25 = (b25 : Int) := (zp_nf hfrr hp rfl).trans g25
                  have k27 : Gr a 27 = (b27 : Int) := (zp_nf hfrr hp rfl).trans g27
                  have k28 : Gr a 28 = (b28 : Int) := (zp_nf hfrr hp rfl).trans g28
                  refine zp_goto (tgt := 72) (pc := 65) hx hb (zd_X12_readExpression (65, .goto 7, 3, 0, []) (List.mem_of_getElem? (i := 35) rfl)) rfl ?_
                  refine zp_store (L' := [(2, 0, rnr), (0, 2, (a : Int)), (1, 0, p1)]) (pc := 72) hx hb hnL (zd_X12_readExpression (72, .istore_n 2, 1, 0, []) (List.mem_of_getElem? (i := 38) rfl)) rfl rfl rfl ?_
                  refine zp_goto (tgt := 20) (pc := 73) hx hb (zd_X12_readExpression (73, .goto (-53), 3, 0, []) (List.mem_of_getElem? (i := 39) rfl)) rfl ?_
                  rcases hor with h9 | h9 | h9 | h9
                  · have h9 : rnr = 1 := h9
                    rw [h9]
                    have hg : zs_go a nc 0 1 G Gr := hh.1 h9
                    by_cases hbr : Gr a 19 = 0
                    · exact ih 1 Gr (by have := (hg.2.2.2 hbr).2; omega) (by decide) (zx_step hin (by decide) rfl rfl hg) k24 k25 k27 k28
                    · exact hbx 1 Gr (zx_step hin (by decide) rfl rfl hg) hbr k24 k25 k27 k28
                  · have h9 : rnr = 2 := h9
                    rw [h9, h2 h9]
                    exact ih 2 G (by omega) (by decide) ⟨hh.2.2 h9 hbad, fun z => absurd z (by decide), hin.2.2.1, hin.2.2.2.1, hin.2.2.2.2⟩ g24 g25 g27 g28
                  · have h9 : rnr = 3 := h9
                    rw [h9]
                    have hg : zs_go a nc 1 1 G Gr := hh.2.1 h9
                    by_cases hbr : Gr a 19 = 0
                    · exact ih 3 Gr (by have := (hg.2.2.2 hbr).2; omega) (by decide) (zx_step hin (by decide) rfl rfl hg) k24 k25 k27 k28
                    · exact hbx 3 Gr (zx_step hin (by decide) rfl rfl hg) hbr k24 k25 k27 k28
                  · have h9 : rnr = 4 := h9
                    rw [h9]
                    obtain ⟨hG, hnb⟩ := h4 h9
                    rw [hG]
                    exact h20 G ⟨hzs, fun _ => hnb, hin.2.2.1, hin.2.2.2.1, hin.2.2.2.2⟩ g24 g25 g27 g28
              · exfalso
                omega
            · exfalso
              omega
  refine zp_load (pc := 0) hx hb (zd_X12_readExpression (0, .aload_n 0, 1, 0, []) (List.mem_of_getElem? (i := 0) rfl)) rfl (j := 0) rfl ?_
  refine zp_const (pc := 1) hx hb (zd_X12_readExpression (1, .iconst 0, 1, 0, []) (List.mem_of_getElem? (i := 1) rfl)) rfl rfl ?_
  refine zp_putf (pc := 2) hx hb hE hw heff (zd_X12_readExpression (2, .putfield 282, 3, 0, []) (List.mem_of_getElem? (i := 2) rfl)) (j := 47) rfl rfl rfl hp (zp_o0 (by decide) (by decide) (by decide) (by decide)) ?_
  refine zp_load (pc := 5) hx hb (zd_X12_readExpression (5, .aload_n 0, 1, 0, []) (List.mem_of_getElem? (i := 3) rfl)) rfl (j := 0) rfl ?_
  refine zp_const (pc := 6) hx hb (zd_X12_readExpression (6, .iconst 0, 1, 0, []) (List.mem_of_getElem? (i := 4) rfl)) rfl rfl ?_
  refine zp_putf (pc := 7) hx hb hE hw heff (zd_X12_readExpression (7, .putfield 304, 3, 0, []) (List.mem_of_getElem? (i := 5) rfl)) (j := 48) rfl rfl rfl hp (zp_o0 (by decide) (by decide) (by decide) (by decide)) ?_
  refine zp_load (pc := 10) hx hb (zd_X12_readExpression (10, .iload_n 1, 1, 0, []) (List.mem_of_getElem? (i := 6) rfl)) rfl (j := 1) rfl ?_
  refine zp_if (pc := 11) (tgt := 18) hx hb (zd_X12_readExpression (11, .ifCond .eq 7, 3, 0, []) (List.mem_of_getElem? (i := 7) rfl)) rfl (fun (hc155 : p1 = 0) => ?_) (fun (hc155 : ¬ (p1 = 0)) => ?_)
  · refine zp_const (pc := 18) hx hb (zd_X12_readExpression (18, .iconst 1, 1, 0, []) (List.mem_of_getElem? (i := 10) rfl)) rfl rfl ?_
    refine zp_store (L' := [(2, 0, 1), (0, 2, (a : Int)), (1, 0, p1)]) (pc := 19) hx hb hnL (zd_X12_readExpression (19, .istore_n 2, 1, 0, []) (List.mem_of_getElem? (i := 11) rfl)) rfl rfl rfl ?_
    have x13 : (zp_set (zp_set (zp_n u.2.1) a 29 0) a 30 0) a 13 = zp_n u.2.1 a 13 := (zp_set_ne (Or.inr (by decide))).trans (zp_set_ne (Or.inr (by decide)))
    have x14 : (zp_set (zp_set (zp_n u.2.1) a 29 0) a 30 0) a 14 = zp_n u.2.1 a 14 := (zp_set_ne (Or.inr (by decide))).trans (zp_set_ne (Or.inr (by decide)))
    have x15 : (zp_set (zp_set (zp_n u.2.1) a 29 0) a 30 0) a 15 = zp_n u.2.1 a 15 := (zp_set_ne (Or.inr (by decide))).trans (zp_set_ne (Or.inr (by decide)))
    have x16 : (zp_set (zp_set (zp_n u.2.1) a 29 0) a 30 0) a 16 = zp_n u.2.1 a 16 := (zp_set_ne (Or.inr (by decide))).trans (zp_set_ne (Or.inr (by decide)))
    have x19 : (zp_set (zp_set (zp_n u.2.1) a 29 0) a 30 0) a 19 = zp_n u.2.1 a 19 := (zp_set_ne (Or.inr (by decide))).trans (zp_set_ne (Or.inr (by decide)))
    have x23 : (zp_set (zp_set (zp_n u.2.1) a 29 0) a 30 0) a 23 = zp_n u.2.1 a 23 := (zp_set_ne (Or.inr (by decide))).trans (zp_set_ne (Or.inr (by decide)))
    have x24 : (zp_set (zp_set (zp_n u.2.1) a 29 0) a 30 0) a 24 = zp_n u.2.1 a 24 := (zp_set_ne (Or.inr (by decide))).trans (zp_set_ne (Or.inr (by decide)))
    have x25 : (zp_set (zp_set (zp_n u.2.1) a 29 0) a 30 0) a 25 = zp_n u.2.1 a 25 := (zp_set_ne (Or.inr (by decide))).trans (zp_set_ne (Or.inr (by decide)))
    have x27 : (zp_set (zp_set (zp_n u.2.1) a 29 0) a 30 0) a 27 = zp_n u.2.1 a 27 := (zp_set_ne (Or.inr (by decide))).trans (zp_set_ne (Or.inr (by decide)))
    have x28 : (zp_set (zp_set (zp_n u.2.1) a 29 0) a 30 0) a 28 = zp_n u.2.1 a 28 := (zp_set_ne (Or.inr (by decide))).trans (zp_set_ne (Or.inr (by decide)))
    have x29 : (zp_set (zp_set (zp_n u.2.1) a 29 0) a 30 0) a 29 = ((0 : Nat) : Int) := ((zp_set_ne (Or.inr (by decide))).trans (zp_set_self))
    have xv24 : ∀ j, zv (zp_set (zp_set (zp_n u.2.1) a 29 0) a 30 0) a 24 j = zv (zp_n u.2.1) a 24 j := fun j => by rw [zv_eq (x24.trans hb24), zv_eq hb24, zp_set_ne (Or.inl (zp_pne hq24 hp (by decide))), zp_set_ne (Or.inl (zp_pne hq24 hp (by decide)))]
    have xv25 : ∀ j, zv (zp_set (zp_set (zp_n u.2.1) a 29 0) a 30 0) a 25 j = zv (zp_n u.2.1) a 25 j := fun j => by rw [zv_eq (x25.trans hb25), zv_eq hb25, zp_set_ne (Or.inl (zp_pne hq25 hp (by decide))), zp_set_ne (Or.inl (zp_pne hq25 hp (by decide)))]
    have xv27 : ∀ j, zv (zp_set (zp_set (zp_n u.2.1) a 29 0) a 30 0) a 27 j = zv (zp_n u.2.1) a 27 j := fun j => by rw [zv_eq (x27.trans hb27), zv_eq hb27, zp_set_ne (Or.inl (zp_pne hq27 hp (by decide))), zp_set_ne (Or.inl (zp_pne hq27 hp (by decide)))]
    have xv28 : ∀ j, zv (zp_set (zp_set (zp_n u.2.1) a 29 0) a 30 0) a 28 j = zv (zp_n u.2.1) a 28 j := fun j => by rw [zv_eq (x28.trans hb28), zv_eq hb28, zp_set_ne (Or.inl (zp_pne hq28 hp (by decide))), zp_set_ne (Or.inl (zp_pne hq28 hp (by decide)))]
    have hzs : zs nc 0 1 a (zp_set (zp_set (zp_n u.2.1) a 29 0) a 30 0) := zs_mk (bad := zp_n u.2.1 a 19) (fr := zp_n u.2.1 a 14) ⟨⟨Nat.le_refl _, by show ((nc + 0 : Nat) : Int) ≤ _; omega, by have := htk.1; omega, fun i hi => absurd hi (Nat.not_lt_zero i)⟩, fun _ => ⟨fun i hi => absurd hi (Nat.not_lt_zero i), fun _ i hi => absurd hi (Nat.not_lt_zero i), zi_begin⟩⟩ (zs_tk_congr htk x13 x14 x15 x16) (x23.trans hnc) x29 x19 x14 xv24 xv25 xv27 xv28
    exact loop 802 1 (zp_set (zp_set (zp_n u.2.1) a 29 0) a 30 0) (by have := htk.1; have := htk.2.1; omega) (by decide) ⟨hzs, fun z => absurd z (by decide), fun q _ => ⟨xv24 q, xv25 q⟩, by omega, fun z => by omega⟩ (x24.trans hb24) (x25.trans hb25) (x27.trans hb27) (x28.trans hb28)
  · refine zp_const (pc := 14) hx hb (zd_X12_readExpression (14, .iconst 0, 1, 0, []) (List.mem_of_getElem? (i := 8) rfl)) rfl rfl ?_
    refine zp_goto (tgt := 19) (pc := 15) hx hb (zd_X12_readExpression (15, .goto 4, 3, 0, []) (List.mem_of_getElem? (i := 9) rfl)) rfl ?_
    refine zp_store (L' := [(2, 0, 0), (0, 2, (a : Int)), (1, 0, p1)]) (pc := 19) hx hb hnL (zd_X12_readExpression (19, .istore_n 2, 1, 0, []) (List.mem_of_getElem? (i := 11) rfl)) rfl rfl rfl ?_
    have x13 : (zp_set (zp_set (zp_n u.2.1) a 29 0) a 30 0) a 13 = zp_n u.2.1 a 13 := (zp_set_ne (Or.inr (by decide))).trans (zp_set_ne (Or.inr (by decide)))
    have x14 : (zp_set (zp_set (zp_n u.2.1) a 29 0) a 30 0) a 14 = zp_n u.2.1 a 14 := (zp_set_ne (Or.inr (by decide))).trans (zp_set_ne (Or.inr (by decide)))
    have x15 : (zp_set (zp_set (zp_n u.2.1) a 29 0) a 30 0) a 15 = zp_n u.2.1 a 15 := (zp_set_ne (Or.inr (by decide))).trans (zp_set_ne (Or.inr (by decide)))
    have x16 : (zp_set (zp_set (zp_n u.2.1) a 29 0) a 30 0) a 16 = zp_n u.2.1 a 16 := (zp_set_ne (Or.inr (by decide))).trans (zp_set_ne (Or.inr (by decide)))
    have x19 : (zp_set (zp_set (zp_n u.2.1) a 29 0) a 30 0) a 19 = zp_n u.2.1 a 19 := (zp_set_ne (Or.inr (by decide))).trans (zp_set_ne (Or.inr (by decide)))
    have x23 : (zp_set (zp_set (zp_n u.2.1) a 29 0) a 30 0) a 23 = zp_n u.2.1 a 23 := (zp_set_ne (Or.inr (by decide))).trans (zp_set_ne (Or.inr (by decide)))
    have x24 : (zp_set (zp_set (zp_n u.2.1) a 29 0) a 30 0) a 24 = zp_n u.2.1 a 24 := (zp_set_ne (Or.inr (by decide))).trans (zp_set_ne (Or.inr (by decide)))
    have x25 : (zp_set (zp_set (zp_n u.2.1) a 29 0) a 30 0) a 25 = zp_n u.2.1 a 25 := (zp_set_ne (Or.inr (by decide))).trans (zp_set_ne (Or.inr (by decide)))
    have x27 : (zp_set (zp_set (zp_n u.2.1) a 29 0) a 30 0) a 27 = zp_n u.2.1 a 27 := (zp_set_ne (Or.inr (by decide))).trans (zp_set_ne (Or.inr (by decide)))
    have x28 : (zp_set (zp_set (zp_n u.2.1) a 29 0) a 30 0) a 28 = zp_n u.2.1 a 28 := (zp_set_ne (Or.inr (by decide))).trans (zp_set_ne (Or.inr (by decide)))
    have x29 : (zp_set (zp_set (zp_n u.2.1) a 29 0) a 30 0) a 29 = ((0 : Nat) : Int) := ((zp_set_ne (Or.inr (by decide))).trans (zp_set_self))
    have xv24 : ∀ j, zv (zp_set (zp_set (zp_n u.2.1) a 29 0) a 30 0) a 24 j = zv (zp_n u.2.1) a 24 j := fun j => by rw [zv_eq (x24.trans hb24), zv_eq hb24, zp_set_ne (Or.inl (zp_pne hq24 hp (by decide))), zp_set_ne (Or.inl (zp_pne hq24 hp (by decide)))]
    have xv25 : ∀ j, zv (zp_set (zp_set (zp_n u.2.1) a 29 0) a 30 0) a 25 j = zv (zp_n u.2.1) a 25 j := fun j => by rw [zv_eq (x25.trans hb25), zv_eq hb25, zp_set_ne (Or.inl (zp_pne hq25 hp (by decide))), zp_set_ne (Or.inl (zp_pne hq25 hp (by decide)))]
    have xv27 : ∀ j, zv (zp_set (zp_set (zp_n u.2.1) a 29 0) a 30 0) a 27 j = zv (zp_n u.2.1) a 27 j := fun j => by rw [zv_eq (x27.trans hb27), zv_eq hb27, zp_set_ne (Or.inl (zp_pne hq27 hp (by decide))), zp_set_ne (Or.inl (zp_pne hq27 hp (by decide)))]
    have xv28 : ∀ j, zv (zp_set (zp_set (zp_n u.2.1) a 29 0) a 30 0) a 28 j = zv (zp_n u.2.1) a 28 j := fun j => by rw [zv_eq (x28.trans hb28), zv_eq hb28, zp_set_ne (Or.inl (zp_pne hq28 hp (by decide))), zp_set_ne (Or.inl (zp_pne hq28 hp (by decide)))]
    have hzs : zs nc 0 0 a (zp_set (zp_set (zp_n u.2.1) a 29 0) a 30 0) := zs_mk (bad := zp_n u.2.1 a 19) (fr := zp_n u.2.1 a 14) ⟨⟨Nat.le_refl _, by show ((nc + 0 : Nat) : Int) ≤ _; omega, by have := htk.1; omega, fun i hi => absurd hi (Nat.not_lt_zero i)⟩, fun _ => ⟨fun i hi => absurd hi (Nat.not_lt_zero i), fun _ i hi => absurd hi (Nat.not_lt_zero i), zi_begin⟩⟩ (zs_tk_congr htk x13 x14 x15 x16) (x23.trans hnc) x29 x19 x14 xv24 xv25 xv27 xv28
    exact loop 802 0 (zp_set (zp_set (zp_n u.2.1) a 29 0) a 30 0) (by have := htk.1; have := htk.2.1; omega) (by decide) ⟨hzs, fun z => absurd z (by decide), fun q _ => ⟨xv24 q, xv25 q⟩, by omega, fun z => by omega⟩ (x24.trans hb24) (x25.trans hb25) (x27.trans hb27) (x28.trans hb28)
def zK_be : zk_K := (zt_mn 211, prog_14_method_37_code, 1, (Option.none : Option Jvm.ClassFile.FieldType), 1, 12, [(2, 92, 0, 0)], [(none, [])], [(92, 15, 0), (92, 19, 0), (92, 18, 0), (92, 14, 0), (92, 16, 0), (92, 17, 0)], (2, 70, 0, 0))
def zψ_be : (Nat → Option Nat) → (Nat → Nat → Int) → List Int → (Nat → Option Nat) → (Nat → Nat → Int) → Int → Prop := fun P G ps P' G' rn => P' = P ∧ zs_tk (zp_0 ps) G' ∧ G' (zp_0 ps) 19 = 0
theorem zX_be {l : Launch} {w : zk_W} (hW : zh_W w) : zk_metX l w zt_dv zt_TB zK_be (zp_A zp_tA) (zp_B zψ_be) ∧ zk_cok w zt_TB zK_be := by
  refine zp_meth hW (pl := 1680) rfl (by decide +kernel) (fun p e R s m args below meth c Q u hx hb hE hQ hU5 heff hnL hok hφ => ?_)
  have hw := hW.1
  obtain ⟨p0, hps, k0⟩ := zp_ps1 hok
  obtain ⟨a, rfl, hp⟩ := zp_this k0
  have hrm : zk_Kr (zk_ev (zp_E zK_be)) = zk_Kr zK_be := rfl
  rw [hps] at hφ ⊢
  show zp_J p l e R s m args below meth c Q w u [] 0 [(0, 2, (a : Int))] [] u.1 (zp_n u.2.1)
  refine zp_kn (k := 13) (a := a) hw (show zp_fd 92 13 = some (12, 0, 0, 0, 400) from rfl) rfl hp (fun hk13 => ?_)
  obtain ⟨tp, htp⟩ := zp_nat (zp_int hk13).1
  have htpb := zp_int hk13
  rw [htp] at htpb
  refine zp_load (pc := 0) hx hb (zd_X12_begin (0, .aload_n 0, 1, 0, []) (List.mem_of_getElem? (i := 0) rfl)) rfl (j := 0) rfl ?_
  refine zp_const (pc := 1) hx hb (zd_X12_begin (1, .iconst 0, 1, 0, []) (List.mem_of_getElem? (i := 1) rfl)) rfl rfl ?_
  refine zp_putf (pc := 2) hx hb hE hw heff (zd_X12_begin (2, .putfield 237, 3, 0, []) (List.mem_of_getElem? (i := 2) rfl)) (j := 33) rfl rfl rfl hp (zp_o0 (by decide) (by decide) (by decide) (by decide)) ?_
  refine zp_load (pc := 5) hx hb (zd_X12_begin (5, .aload_n 0, 1, 0, []) (List.mem_of_getElem? (i := 3) rfl)) rfl (j := 0) rfl ?_
  refine zp_const (pc := 6) hx hb (zd_X12_begin (6, .iconst 0, 1, 0, []) (List.mem_of_getElem? (i := 4) rfl)) rfl rfl ?_
  refine zp_putf (pc := 7) hx hb hE hw heff (zd_X12_begin (7, .putfield 240, 3, 0, []) (List.mem_of_getElem? (i := 5) rfl)) (j := 37) rfl rfl rfl hp (zp_o0 (by decide) (by decide) (by decide) (by decide)) ?_
  refine zp_load (pc := 10) hx hb (zd_X12_begin (10, .aload_n 0, 1, 0, []) (List.mem_of_getElem? (i := 6) rfl)) rfl (j := 0) rfl ?_
  refine zp_const (pc := 11) hx hb (zd_X12_begin (11, .iconst (-1), 1, 0, []) (List.mem_of_getElem? (i := 7) rfl)) rfl rfl ?_
  refine zp_putf (pc := 12) hx hb hE hw heff (zd_X12_begin (12, .putfield 38, 3, 0, []) (List.mem_of_getElem? (i := 8) rfl)) (j := 36) rfl rfl rfl hp (zp_o0 (by decide) (by decide) (by decide) (by decide)) ?_
  refine zp_load (pc := 15) hx hb (zd_X12_begin (15, .aload_n 0, 1, 0, []) (List.mem_of_getElem? (i := 9) rfl)) rfl (j := 0) rfl ?_
  have hq13 : (zp_set (zp_set (zp_set (zp_n u.2.1) a 15 0) a 19 0) a 18 (-1)) a 13 = (tp : Int) := ((zp_set_ne (Or.inr (by decide))).trans ((zp_set_ne (Or.inr (by decide))).trans ((zp_set_ne (Or.inr (by decide))).trans (htp))))
  have hq15 : (zp_set (zp_set (zp_set (zp_n u.2.1) a 15 0) a 19 0) a 18 (-1)) a 15 = 0 := ((zp_set_ne (Or.inr (by decide))).trans ((zp_set_ne (Or.inr (by decide))).trans (zp_set_self)))
  have hq19 : (zp_set (zp_set (zp_set (zp_n u.2.1) a 15 0) a 19 0) a 18 (-1)) a 19 = 0 := ((zp_set_ne (Or.inr (by decide))).trans (zp_set_self))
  refine zp_call (pc := 16) (how := 0) (idx := 244) (mi := 212) (S := []) hx hb hE hw heff hrm (zX_nx hW) rfl (j := 14) rfl rfl (by decide +kernel) (zd_X12_begin (16, .invokevirtual 244, 3, 0, []) (List.mem_of_getElem? (i := 10) rfl)) [(a : Int)] rfl ⟨zp_o2 hp, trivial⟩ (Nat.le_of_ble_eq_true rfl) (show 0 ≤ (zp_set (zp_set (zp_set (zp_n u.2.1) a 15 0) a 19 0) a 18 (-1)) a 15 ∧ (zp_set (zp_set (zp_set (zp_n u.2.1) a 15 0) a 19 0) a 18 (-1)) a 15 ≤ (zp_set (zp_set (zp_set (zp_n u.2.1) a 15 0) a 19 0) a 18 (-1)) a 13 by omega) (fun al hal rnn Pn Gn hextn hfrn hokn hcsn hpsin => ?_)
  obtain rfl := List.mem_singleton.mp hal
  obtain ⟨rfl, hxn⟩ := hpsin
  have hxn : (zp_set (zp_set (zp_set (zp_n u.2.1) a 15 0) a 19 0) a 18 (-1)) a 15 ≤ Gn a 14 ∧ Gn a 14 ≤ Gn a 15 ∧ Gn a 15 ≤ (zp_set (zp_set (zp_set (zp_n u.2.1) a 15 0) a 19 0) a 18 (-1)) a 13 ∧ 0 ≤ Gn a 16 ∧ Gn a 16 ≤ 3 ∧ (Gn a 16 ≠ 0 → Gn a 14 < Gn a 15) := hxn
  have n13 : Gn a 13 = (zp_set (zp_set (zp_set (zp_n u.2.1) a 15 0) a 19 0) a 18 (-1)) a 13 := zp_nf hfrn hp rfl
  have n19 : Gn a 19 = (zp_set (zp_set (zp_set (zp_n u.2.1) a 15 0) a 19 0) a 18 (-1)) a 19 := zp_nf hfrn hp rfl
  refine zp_vret (pc := 19) hx hb hE hQ hU5 rfl (by decide) (zd_X12_begin (19, .return_, 1, 0, []) (List.mem_of_getElem? (i := 11) rfl)) (j := 0) rfl ?_
  rw [hps]
  refine ⟨rfl, ?_⟩
  show zs_tk a Gn ∧ Gn a 19 = 0
  unfold zs_tk
  omega
def zK_bx : zk_K := (zt_mn 210, prog_14_method_59_code, 2, (Option.none : Option Jvm.ClassFile.FieldType), 1, 12, [(2, 92, 0, 0), (0, 0, 0, 1)], [(none, [])], [(92, 20, 0), (92, 15, 0), (92, 19, 0), (92, 18, 0), (92, 14, 0), (92, 16, 0), (92, 17, 0), (92, 21, 0), (92, 23, 0), (92, 26, 0)], (3, 110, 0, 0))
def zψ_bx : (Nat → Option Nat) → (Nat → Nat → Int) → List Int → (Nat → Option Nat) → (Nat → Nat → Int) → Int → Prop := fun P G ps P' G' rn => P' = P ∧ zs_tk (zp_0 ps) G' ∧ G' (zp_0 ps) 19 = 0 ∧ G' (zp_0 ps) 20 = ps.getD 1 0 ∧ G' (zp_0 ps) 21 = 0 ∧ G' (zp_0 ps) 23 = 0
theorem zX_bx {l : Launch} {w : zk_W} (hW : zh_W w) : zk_metX l w zt_dv zt_TB zK_bx (zp_A zp_tA) (zp_B zψ_bx) ∧ zk_cok w zt_TB zK_bx := by
  refine zp_meth hW (pl := 1676) rfl (by decide +kernel) (fun p e R s m args below meth c Q u hx hb hE hQ hU5 heff hnL hok hφ => ?_)
  have hw := hW.1
  obtain ⟨p0, p1, hps, k0, k1⟩ := zp_ps2 hok
  obtain ⟨a, rfl, hp⟩ := zp_this k0
  have hrm : zk_Kr (zk_ev (zp_E zK_bx)) = zk_Kr zK_bx := rfl
  rw [hps] at hφ ⊢
  have hi1 := zp_int k1
  show zp_J p l e R s m args below meth c Q w u [] 0 [(0, 2, (a : Int)), (1, 0, p1)] [] u.1 (zp_n u.2.1)
  refine zp_load (pc := 0) hx hb (zd_X12_beginText (0, .aload_n 0, 1, 0, []) (List.mem_of_getElem? (i := 0) rfl)) rfl (j := 0) rfl ?_
  refine zp_load (pc := 1) hx hb (zd_X12_beginText (1, .iload_n 1, 1, 0, []) (List.mem_of_getElem? (i := 1) rfl)) rfl (j := 1) rfl ?_
  refine zp_putf (pc := 2) hx hb hE hw heff (zd_X12_beginText (2, .putfield 319, 3, 0, []) (List.mem_of_getElem? (i := 2) rfl)) (j := 38) rfl rfl rfl hp (zp_o0 (by omega) (by omega) (by omega) (by omega)) ?_
  refine zp_load (pc := 5) hx hb (zd_X12_beginText (5, .aload_n 0, 1, 0, []) (List.mem_of_getElem? (i := 3) rfl)) rfl (j := 0) rfl ?_
  have hq20 : (zp_set (zp_n u.2.1) a 20 p1) a 20 = p1 := zp_set_self
  refine zp_call (pc := 6) (how := 0) (idx := 368) (mi := 211) (S := []) hx hb hE hw heff hrm (zX_be hW) rfl (j := 13) rfl rfl (by decide +kernel) (zd_X12_beginText (6, .invokevirtual 368, 3, 0, []) (List.mem_of_getElem? (i := 4) rfl)) [(a : Int)] rfl ⟨zp_o2 hp, trivial⟩ (Nat.le_of_ble_eq_true rfl) trivial (fun al hal rnn Pn Gn hextn hfrn hokn hcsn hpsin => ?_)
  obtain rfl := List.mem_singleton.mp hal
  obtain ⟨rfl, htn, hbn⟩ := hpsin
  have htn : zs_tk a Gn := htn
  have hbn : Gn a 19 = 0 := hbn
  have n20 : Gn a 20 = p1 := (zp_nf hfrn hp rfl).trans hq20
  refine zp_load (pc := 9) hx hb (zd_X12_beginText (9, .aload_n 0, 1, 0, []) (List.mem_of_getElem? (i := 5) rfl)) rfl (j := 0) rfl ?_
  refine zp_const (pc := 10) hx hb (zd_X12_beginText (10, .iconst 0, 1, 0, []) (List.mem_of_getElem? (i := 6) rfl)) rfl rfl ?_
  refine zp_putf (pc := 11) hx hb hE hw heff (zd_X12_beginText (11, .putfield 371, 3, 0, []) (List.mem_of_getElem? (i := 7) rfl)) (j := 39) rfl rfl rfl hp (zp_o0 (by decide) (by decide) (by decide) (by decide)) ?_
  refine zp_load (pc := 14) hx hb (zd_X12_beginText (14, .aload_n 0, 1, 0, []) (List.mem_of_getElem? (i := 8) rfl)) rfl (j := 0) rfl ?_
  refine zp_const (pc := 15) hx hb (zd_X12_beginText (15, .iconst 0, 1, 0, []) (List.mem_of_getElem? (i := 9) rfl)) rfl rfl ?_
  refine zp_putf (pc := 16) hx hb hE hw heff (zd_X12_beginText (16, .putfield 279, 3, 0, []) (List.mem_of_getElem? (i := 10) rfl)) (j := 41) rfl rfl rfl hp (zp_o0 (by decide) (by decide) (by decide) (by decide)) ?_
  refine zp_load (pc := 19) hx hb (zd_X12_beginText (19, .aload_n 0, 1, 0, []) (List.mem_of_getElem? (i := 11) rfl)) rfl (j := 0) rfl ?_
  refine zp_const (pc := 20) hx hb (zd_X12_beginText (20, .iconst 0, 1, 0, []) (List.mem_of_getElem? (i := 12) rfl)) rfl rfl ?_
  refine zp_putf (pc := 21) hx hb hE hw heff (zd_X12_beginText (21, .putfield 310, 3, 0, []) (List.mem_of_getElem? (i := 13) rfl)) (j := 44) rfl rfl rfl hp (zp_o0 (by decide) (by decide) (by decide) (by decide)) ?_
  refine zp_vret (pc := 24) hx hb hE hQ hU5 rfl (by decide) (zd_X12_beginText (24, .return_, 1, 0, []) (List.mem_of_getElem? (i := 14) rfl)) (j := 0) rfl ?_
  rw [hps]
  refine ⟨rfl, ?_⟩
  show zs_tk a (zp_set (zp_set (zp_set Gn a 21 0) a 23 0) a 26 0) ∧ (zp_set (zp_set (zp_set Gn a 21 0) a 23 0) a 26 0) a 19 = 0 ∧ (zp_set (zp_set (zp_set Gn a 21 0) a 23 0) a 26 0) a 20 = p1 ∧ (zp_set (zp_set (zp_set Gn a 21 0) a 23 0) a 26 0) a 21 = 0 ∧ (zp_set (zp_set (zp_set Gn a 21 0) a 23 0) a 26 0) a 23 = 0
  refine ⟨zs_tk_congr htn ((zp_set_ne (Or.inr (by decide))).trans ((zp_set_ne (Or.inr (by decide))).trans ((zp_set_ne (Or.inr (by decide)))))) ((zp_set_ne (Or.inr (by decide))).trans ((zp_set_ne (Or.inr (by decide))).trans ((zp_set_ne (Or.inr (by decide)))))) ((zp_set_ne (Or.inr (by decide))).trans ((zp_set_ne (Or.inr (by decide))).trans ((zp_set_ne (Or.inr (by decide)))))) ((zp_set_ne (Or.inr (by decide))).trans ((zp_set_ne (Or.inr (by decide))).trans ((zp_set_ne (Or.inr (by decide)))))), ((zp_set_ne (Or.inr (by decide))).trans ((zp_set_ne (Or.inr (by decide))).trans ((zp_set_ne (Or.inr (by decide))).trans (hbn)))), ((zp_set_ne (Or.inr (by decide))).trans ((zp_set_ne (Or.inr (by decide))).trans ((zp_set_ne (Or.inr (by decide))).trans (n20)))), ((zp_set_ne (Or.inr (by decide))).trans ((zp_set_ne (Or.inr (by decide))).trans (zp_set_self))), ((zp_set_ne (Or.inr (by decide))).trans (zp_set_self))⟩
def zK_et : zk_K := (zt_mn 235, prog_14_method_60_code, 1, (Option.none : Option Jvm.ClassFile.FieldType), 1, 12, [(2, 92, 0, 0)], [(none, [])], [(92, 14, 0), (92, 15, 0), (92, 16, 0), (92, 17, 0), (92, 18, 0), (92, 19, 0), (92, 20, 0), (92, 13, 0)], (3, 110, 0, 0))
def zφ_et : (Nat → Option Nat) → (Nat → Nat → Int) → List Int → Prop := fun _ G ps => zs_tk (zp_0 ps) G
def zψ_et : (Nat → Option Nat) → (Nat → Nat → Int) → List Int → (Nat → Option Nat) → (Nat → Nat → Int) → Int → Prop := fun P G ps P' G' rn => P' = P ∧ G' (zp_0 ps) 20 = 0 ∧ (G' (zp_0 ps) 19 = 0 → G (zp_0 ps) 19 = 0)
theorem zX_et {l : Launch} {w : zk_W} (hW : zh_W w) : zk_metX l w zt_dv zt_TB zK_et (zp_A zφ_et) (zp_B zψ_et) ∧ zk_cok w zt_TB zK_et := by
  refine zp_meth hW (pl := 1788) rfl (by decide +kernel) (fun p e R s m args below meth c Q u hx hb hE hQ hU5 heff hnL hok hφ => ?_)
  have hw := hW.1
  obtain ⟨p0, hps, k0⟩ := zp_ps1 hok
  obtain ⟨a, rfl, hp⟩ := zp_this k0
  have hrm : zk_Kr (zk_ev (zp_E zK_et)) = zk_Kr zK_et := rfl
  rw [hps] at hφ ⊢
  have hφ : zs_tk a (zp_n u.2.1) := hφ
  show zp_J p l e R s m args below meth c Q w u [] 0 [(0, 2, (a : Int))] [] u.1 (zp_n u.2.1)
  refine zp_kn (k := 19) (a := a) hw (show zp_fd 92 19 = some (12, 0, 0, 0, 1) from rfl) rfl hp (fun hk19 => ?_)
  have hxb := zp_int hk19
  refine zp_load (pc := 0) hx hb (zd_X12_endText (0, .aload_n 0, 1, 0, []) (List.mem_of_getElem? (i := 0) rfl)) rfl (j := 0) rfl ?_
  refine zp_getf (n := ((zp_n u.2.1) a 19)) (pc := 1) hx hb hE hw (zd_X12_endText (1, .getfield 240, 3, 0, []) (List.mem_of_getElem? (i := 1) rfl)) (j := 37) rfl rfl rfl hp rfl ?_
  refine zp_if (pc := 4) (tgt := 19) hx hb (zd_X12_endText (4, .ifCond .ne 15, 3, 0, []) (List.mem_of_getElem? (i := 2) rfl)) rfl (fun (hc156 : ¬ ((zp_n u.2.1) a 19) = 0) => ?_) (fun (hc156 : ¬ (¬ ((zp_n u.2.1) a 19) = 0)) => ?_)
  · refine zp_load (pc := 19) hx hb (zd_X12_endText (19, .aload_n 0, 1, 0, []) (List.mem_of_getElem? (i := 9) rfl)) rfl (j := 0) rfl ?_
    refine zp_const (pc := 20) hx hb (zd_X12_endText (20, .iconst 0, 1, 0, []) (List.mem_of_getElem? (i := 10) rfl)) rfl rfl ?_
    refine zp_putf (pc := 21) hx hb hE hw heff (zd_X12_endText (21, .putfield 319, 3, 0, []) (List.mem_of_getElem? (i := 11) rfl)) (j := 38) rfl rfl rfl hp (zp_o0 (by decide) (by decide) (by decide) (by decide)) ?_
    refine zp_load (pc := 24) hx hb (zd_X12_endText (24, .aload_n 0, 1, 0, []) (List.mem_of_getElem? (i := 12) rfl)) rfl (j := 0) rfl ?_
    refine zp_const (pc := 25) hx hb (zd_X12_endText (25, .iconst 0, 1, 0, []) (List.mem_of_getElem? (i := 13) rfl)) rfl rfl ?_
    refine zp_putf (pc := 26) hx hb hE hw heff (zd_X12_endText (26, .putfield 228, 3, 0, []) (List.mem_of_getElem? (i := 14) rfl)) (j := 31) rfl rfl rfl hp (zp_o0 (by decide) (by decide) (by decide) (by decide)) ?_
    refine zp_vret (pc := 29) hx hb hE hQ hU5 rfl (by decide) (zd_X12_endText (29, .return_, 1, 0, []) (List.mem_of_getElem? (i := 15) rfl)) (j := 0) rfl ?_
    rw [hps]
    refine ⟨rfl, ((zp_set_ne (Or.inr (by decide))).trans (zp_set_self)), fun z => ?_⟩
    have z : (zp_set (zp_set (zp_n u.2.1) a 20 0) a 13 0) a 19 = 0 := z
    have z1 : (zp_set (zp_set (zp_n u.2.1) a 20 0) a 13 0) a 19 = ((zp_n u.2.1) a 19) := ((zp_set_ne (Or.inr (by decide))).trans ((zp_set_ne (Or.inr (by decide)))))
    show zp_n u.2.1 a 19 = 0
    omega
  · refine zp_load (pc := 7) hx hb (zd_X12_endText (7, .aload_n 0, 1, 0, []) (List.mem_of_getElem? (i := 3) rfl)) rfl (j := 0) rfl ?_
    refine zp_getf (n := ((zp_n u.2.1) a 16)) (pc := 8) hx hb hE hw (zd_X12_endText (8, .getfield 260, 3, 0, []) (List.mem_of_getElem? (i := 4) rfl)) (j := 34) rfl rfl rfl hp rfl ?_
    refine zp_if (pc := 11) (tgt := 19) hx hb (zd_X12_endText (11, .ifCond .eq 8, 3, 0, []) (List.mem_of_getElem? (i := 5) rfl)) rfl (fun (hc157 : ((zp_n u.2.1) a 16) = 0) => ?_) (fun (hc157 : ¬ (((zp_n u.2.1) a 16) = 0)) => ?_)
    · refine zp_load (pc := 19) hx hb (zd_X12_endText (19, .aload_n 0, 1, 0, []) (List.mem_of_getElem? (i := 9) rfl)) rfl (j := 0) rfl ?_
      refine zp_const (pc := 20) hx hb (zd_X12_endText (20, .iconst 0, 1, 0, []) (List.mem_of_getElem? (i := 10) rfl)) rfl rfl ?_
      refine zp_putf (pc := 21) hx hb hE hw heff (zd_X12_endText (21, .putfield 319, 3, 0, []) (List.mem_of_getElem? (i := 11) rfl)) (j := 38) rfl rfl rfl hp (zp_o0 (by decide) (by decide) (by decide) (by decide)) ?_
      refine zp_load (pc := 24) hx hb (zd_X12_endText (24, .aload_n 0, 1, 0, []) (List.mem_of_getElem? (i := 12) rfl)) rfl (j := 0) rfl ?_
      refine zp_const (pc := 25) hx hb (zd_X12_endText (25, .iconst 0, 1, 0, []) (List.mem_of_getElem? (i := 13) rfl)) rfl rfl ?_
      refine zp_putf (pc := 26) hx hb hE hw heff (zd_X12_endText (26, .putfield 228, 3, 0, []) (List.mem_of_getElem? (i := 14) rfl)) (j := 31) rfl rfl rfl hp (zp_o0 (by decide) (by decide) (by decide) (by decide)) ?_
      refine zp_vret (pc := 29) hx hb hE hQ hU5 rfl (by decide) (zd_X12_endText (29, .return_, 1, 0, []) (List.mem_of_getElem? (i := 15) rfl)) (j := 0) rfl ?_
      rw [hps]
      refine ⟨rfl, ((zp_set_ne (Or.inr (by decide))).trans (zp_set_self)), fun z => ?_⟩
      have z : (zp_set (zp_set (zp_n u.2.1) a 20 0) a 13 0) a 19 = 0 := z
      have z1 : (zp_set (zp_set (zp_n u.2.1) a 20 0) a 13 0) a 19 = ((zp_n u.2.1) a 19) := ((zp_set_ne (Or.inr (by decide))).trans ((zp_set_ne (Or.inr (by decide)))))
      show zp_n u.2.1 a 19 = 0
      omega
    · refine zp_load (pc := 14) hx hb (zd_X12_endText (14, .aload_n 0, 1, 0, []) (List.mem_of_getElem? (i := 6) rfl)) rfl (j := 0) rfl ?_
      refine zp_const (pc := 15) hx hb (zd_X12_endText (15, .iconst 0, 1, 0, []) (List.mem_of_getElem? (i := 7) rfl)) rfl rfl ?_
      refine zp_call (pc := 16) (how := 0) (idx := 275) (mi := 217) (S := []) hx hb hE hw heff hrm (zX_mu hW) rfl (j := 19) rfl rfl (by decide +kernel) (zd_X12_endText (16, .invokevirtual 275, 3, 0, []) (List.mem_of_getElem? (i := 8) rfl)) [(a : Int), 0] rfl ⟨zp_o2 hp, zp_o0 (by decide) (by decide) (by decide) (by decide), trivial⟩ (Nat.le_of_ble_eq_true rfl) hφ (fun al hal rnm Pm Gm hextm hfrm hokm hcsm hpsim => ?_)
      obtain rfl := List.mem_singleton.mp hal
      obtain ⟨rfl, htm, hmm⟩ := hpsim
      have hmm : zs_mu a 0 (zp_n u.2.1) Gm := hmm
      refine zp_load (pc := 19) hx hb (zd_X12_endText (19, .aload_n 0, 1, 0, []) (List.mem_of_getElem? (i := 9) rfl)) rfl (j := 0) rfl ?_
      refine zp_const (pc := 20) hx hb (zd_X12_endText (20, .iconst 0, 1, 0, []) (List.mem_of_getElem? (i := 10) rfl)) rfl rfl ?_
      refine zp_putf (pc := 21) hx hb hE hw heff (zd_X12_endText (21, .putfield 319, 3, 0, []) (List.mem_of_getElem? (i := 11) rfl)) (j := 38) rfl rfl rfl hp (zp_o0 (by decide) (by decide) (by decide) (by decide)) ?_
      refine zp_load (pc := 24) hx hb (zd_X12_endText (24, .aload_n 0, 1, 0, []) (List.mem_of_getElem? (i := 12) rfl)) rfl (j := 0) rfl ?_
      refine zp_const (pc := 25) hx hb (zd_X12_endText (25, .iconst 0, 1, 0, []) (List.mem_of_getElem? (i := 13) rfl)) rfl rfl ?_
      refine zp_putf (pc := 26) hx hb hE hw heff (zd_X12_endText (26, .putfield 228, 3, 0, []) (List.mem_of_getElem? (i := 14) rfl)) (j := 31) rfl rfl rfl hp (zp_o0 (by decide) (by decide) (by decide) (by decide)) ?_
      refine zp_vret (pc := 29) hx hb hE hQ hU5 rfl (by decide) (zd_X12_endText (29, .return_, 1, 0, []) (List.mem_of_getElem? (i := 15) rfl)) (j := 0) rfl ?_
      rw [hps]
      refine ⟨rfl, ((zp_set_ne (Or.inr (by decide))).trans (zp_set_self)), fun z => ?_⟩
      have z : (zp_set (zp_set Gm a 20 0) a 13 0) a 19 = 0 := z
      have z1 : (zp_set (zp_set Gm a 20 0) a 13 0) a 19 = (Gm a 19) := ((zp_set_ne (Or.inr (by decide))).trans ((zp_set_ne (Or.inr (by decide)))))
      show zp_n u.2.1 a 19 = 0
      unfold zs_mu at hmm
      omega
