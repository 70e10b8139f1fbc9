/-! part 70: four, feed, settled, image, back -/
theorem zl_congr2 {f g : Nat → Int} {b b' : Nat} (h : zk_law f b) (he : ∀ j, j < 900 → g (b' + j) = f (b + j)) (hb : ∀ c : Nat, c < 12 → ∀ j, 3 ≤ j → j ≤ 6 → f (b + 2 + 8 * c + j) ≤ 400) : zk_law g b' := by
  have h1 : zk_law (fun x => f (x - b' + b)) b' := by
    intro c hc hn
    have e : ∀ j, (fun x => f (x - b' + b)) (b' + j) = f (b + j) := fun j => by show f (b' + j - b' + b) = f (b + j); congr 1; omega
    have e' : ∀ x y, x = y + b' → (fun x => f (x - b' + b)) x = f (b + y) := fun x y hxy => by show f (x - b' + b) = f (b + y); congr 1; omega
    have en : (c : Int) < f (b + 1) := by rw [← e 1]; exact hn
    obtain ⟨h1, h2⟩ := h c hc en
    have q : ∀ i, (fun x => f (x - b' + b)) (b' + 2 + 8 * c + i) = f (b + 2 + 8 * c + i) := fun i => by rw [e' (b' + 2 + 8 * c + i) (2 + 8 * c + i) (by omega)]; congr 1; omega
    have q0 : (fun x => f (x - b' + b)) (b' + 2 + 8 * c) = f (b + 2 + 8 * c) := q 0
    have k1 : (fun k => (fun x => f (x - b' + b)) (b' + 98 + 2 * k)) = fun k => f (b + 98 + 2 * k) := funext fun k => by rw [e' (b' + 98 + 2 * k) (98 + 2 * k) (by omega)]; congr 1; omega
    have k2 : (fun k => (fun x => f (x - b' + b)) (b' + 98 + 2 * k + 1)) = fun k => f (b + 98 + 2 * k + 1) := funext fun k => by rw [e' (b' + 98 + 2 * k + 1) (98 + 2 * k + 1) (by omega)]; congr 1; omega
    rw [q 5, q 6, q0, q 3, q 4, k1, k2]
    exact ⟨h1, h2⟩
  refine zl_congr h1 (fun j hj => ?_) (fun c hc j j1 j2 => ?_)
  · rw [he j hj]
    show f (b + j) = f (b' + j - b' + b)
    congr 1
    omega
  · have := hb c hc j j1 j2
    show f (b' + 2 + 8 * c + j - b' + b) ≤ 400
    rw [show b' + 2 + 8 * c + j - b' + b = b + 2 + 8 * c + j by omega]
    exact this
theorem zl_cp {f g : Nat → Int} {b b' : Nat} (h : zk_laws f b) (he : ∀ j, j < 5580 → g (b' + j) = f (b + j)) (hb : ∀ j, j < 5580 → ∀ P : Nat → Option Nat, zk_ok P (zk_fj zl_T j) (f (b + j)) ∨ True) (hb2 : ∀ j, j < 5580 → ∃ P : Nat → Option Nat, zk_ok P (zk_fj zl_T j) (f (b + j))) : zk_laws g b' := by
  intro k hk
  refine zl_congr2 (h k hk) (fun j hj => ?_) (fun c hc j j1 j2 => ?_)
  · have := he (180 + 900 * k + j) (by omega)
    rw [show b' + 180 + 900 * k + j = b' + (180 + 900 * k + j) by omega, show b + 180 + 900 * k + j = b + (180 + 900 * k + j) by omega]
    exact this
  · obtain ⟨x, lo, hi, y1, y2, -⟩ := zl_rg3 hk hc (j := j) (by omega)
    obtain ⟨P, hz⟩ := hb2 (180 + 900 * k + 2 + (8 * c + j)) (by omega)
    rw [y1] at hz
    have h1 := (zp_int hz).2
    have h2 := (y2 j1 j2).2
    rw [show b + 180 + 900 * k + 2 + 8 * c + j = b + (180 + 900 * k + 2 + (8 * c + j)) by omega]
    omega
def zl_T2 : zk_T := zt_types.getD 60 (0, 0, 0, [])
theorem zl_fj2 {j i k : Nat} (hi : i < 5580) (hj : j = 5580 * k + i) : zk_fj zl_T2 j = zk_fj zl_T i := by
  subst hj
  rw [zl_fj hi]
  show (if (zk_f0 zl_T2).1 = 9 then zk_rgn zl_T2.2.2.2.tail ((5580 * k + i) % (zk_f0 zl_T2).2.1) else zk_f0 zl_T2) = _
  rw [if_pos (by decide +kernel), show (zk_f0 zl_T2).2.1 = 5580 from by decide +kernel, show (5580 * k + i) % 5580 = i by omega, show zl_T2.2.2.2.tail = zl_rs from by decide +kernel]
theorem zl_kd2 (j : Nat) : (zk_fj zl_T2 j).1 = 0 := by
  rw [zl_fj2 (i := j % 5580) (k := j / 5580) (by omega) (by omega)]
  exact zl_kd _
theorem zp_ps6 {α β : Type} {R : α → β → Prop} {a1 a2 a3 a4 a5 a6 : α} {bs : List β} (h : zk_all2 R [a1, a2, a3, a4, a5, a6] bs) : ∃ b1 b2 b3 b4 b5 b6, bs = [b1, b2, b3, b4, b5, b6] ∧ R a1 b1 ∧ R a2 b2 ∧ R a3 b3 ∧ R a4 b4 ∧ R a5 b5 ∧ R a6 b6 := by
  obtain ⟨b1, r1, rfl, e1, h1⟩ := zk_all2_cons h
  obtain ⟨b2, r2, rfl, e2, h2⟩ := zk_all2_cons h1
  obtain ⟨b3, r3, rfl, e3, h3⟩ := zk_all2_cons h2
  obtain ⟨b4, b5, b6, rfl, e4, e5, e6⟩ := zp_ps3 h3
  exact ⟨b1, b2, b3, b4, b5, b6, rfl, e1, e2, e3, e4, e5, e6⟩
def zK_sd : zk_K := (zt_mn 188, prog_14_method_9_code, 2, (Option.some Jvm.ClassFile.FieldType.int), 1, 12, [(2, 13, 0, 0), (0, 0, (-6), 2147483647)], [(some (0, 0, (-6), 2147483647), [])], [(13, 8, 0), (13, 1, 0), (58, 1001, 0)], (1, 30, 0, 0))
def zψ_sd : (Nat → Option Nat) → (Nat → Nat → Int) → List Int → (Nat → Option Nat) → (Nat → Nat → Int) → Int → Prop := fun P G ps P' G' rn => P' = P ∧ rn = ps.getD 1 0
theorem zX_sd {l : Launch} {w : zk_W} (hW : zh_W w) : zk_metX l w zt_dv zt_TB zK_sd (zp_A zp_tA) (zp_B zψ_sd) ∧ zk_cok w zt_TB zK_sd := by
  refine zp_meth hW (pl := 1580) rfl (by decide +kernel) (fun p e R s m args below meth c Q u hx hb hE hQ hU5 heff hnL hok hφ => ?_)
  have hw := hW.1
  obtain ⟨p0, p1, hps, k0, k1⟩ := zp_ps2 hok
  obtain ⟨a, rfl, hp⟩ := zp_this k0
  have hrm : zk_Kr (zk_ev (zp_E zK_sd)) = zk_Kr zK_sd := rfl
  rw [hps] at hφ ⊢
  have hi1 := zp_int k1
  show zp_J p l e R s m args below meth c Q w u [] 0 [(0, 2, (a : Int)), (1, 0, p1)] [] u.1 (zp_n u.2.1)
  refine zp_kn (k := 8) (a := a) hw (show zp_fd 13 8 = some (12, 0, 0, 0, 16) from rfl) rfl hp (fun hk8 => ?_)
  have hxb := zp_int hk8
  refine zp_load (pc := 0) hx hb (zd_X12_settled (0, .aload_n 0, 1, 0, []) (List.mem_of_getElem? (i := 0) rfl)) rfl (j := 0) rfl ?_
  refine zp_load (pc := 1) hx hb (zd_X12_settled (1, .iload_n 1, 1, 0, []) (List.mem_of_getElem? (i := 1) rfl)) rfl (j := 1) rfl ?_
  refine zp_if (pc := 2) (tgt := 12) hx hb (zd_X12_settled (2, .ifCond .ge 10, 3, 0, []) (List.mem_of_getElem? (i := 2) rfl)) rfl (fun (hc199 : 0 ≤ p1) => ?_) (fun (hc199 : ¬ (0 ≤ p1)) => ?_)
  · refine zp_const (pc := 12) hx hb (zd_X12_settled (12, .iconst 0, 1, 0, []) (List.mem_of_getElem? (i := 6) rfl)) rfl rfl ?_
    refine zp_putf (pc := 13) hx hb hE hw heff (zd_X12_settled (13, .putfield 167, 3, 0, []) (List.mem_of_getElem? (i := 7) rfl)) (j := 26) rfl rfl rfl hp (zp_o0 (by decide) (by decide) (by decide) (by decide)) ?_
    refine zp_load (pc := 16) hx hb (zd_X12_settled (16, .aload_n 0, 1, 0, []) (List.mem_of_getElem? (i := 8) rfl)) rfl (j := 0) rfl ?_
    refine zp_load (pc := 17) hx hb (zd_X12_settled (17, .iload_n 1, 1, 0, []) (List.mem_of_getElem? (i := 9) rfl)) rfl (j := 1) rfl ?_
    refine zp_call (pc := 18) (how := 0) (idx := 170) (mi := 183) (S := []) hx hb hE hw heff hrm (zX_te13 hW) rfl (j := 0) rfl rfl (by decide +kernel) (zd_X12_settled (18, .invokevirtual 170, 3, 0, []) (List.mem_of_getElem? (i := 10) rfl)) [(a : Int), p1] rfl ⟨zp_o2 hp, k1, trivial⟩ (Nat.le_of_ble_eq_true rfl) trivial (fun al hal rnt Pt Gt hextt hfrt hokt hcst hpsit => ?_)
    obtain rfl := List.mem_singleton.mp hal
    have hrt := zp_int (hokt _ rfl).1
    obtain ⟨rfl, hrn⟩ := hpsit
    have hrn : rnt = p1 := hrn
    refine zp_iret (pc := 21) (n := rnt) hx hb hE hQ hU5 rfl (by decide) (zd_X12_settled (21, .ireturn, 1, 0, []) (List.mem_of_getElem? (i := 11) rfl)) (j := 0) rfl (zp_o0 (by omega) (by omega) (by omega) (by omega)) ?_
    rw [hps]
    exact ⟨rfl, hrn⟩
  · refine zp_load (pc := 5) hx hb (zd_X12_settled (5, .aload_n 0, 1, 0, []) (List.mem_of_getElem? (i := 3) rfl)) rfl (j := 0) rfl ?_
    refine zp_getf (n := ((zp_n u.2.1) a 8)) (pc := 6) hx hb hE hw (zd_X12_settled (6, .getfield 167, 3, 0, []) (List.mem_of_getElem? (i := 4) rfl)) (j := 26) rfl rfl rfl hp rfl ?_
    refine zp_goto (tgt := 13) (pc := 9) hx hb (zd_X12_settled (9, .goto 4, 3, 0, []) (List.mem_of_getElem? (i := 5) rfl)) rfl ?_
    refine zp_putf (pc := 13) hx hb hE hw heff (zd_X12_settled (13, .putfield 167, 3, 0, []) (List.mem_of_getElem? (i := 7) rfl)) (j := 26) rfl rfl rfl hp (zp_o0 (by omega) (by omega) (by omega) (by omega)) ?_
    refine zp_load (pc := 16) hx hb (zd_X12_settled (16, .aload_n 0, 1, 0, []) (List.mem_of_getElem? (i := 8) rfl)) rfl (j := 0) rfl ?_
    refine zp_load (pc := 17) hx hb (zd_X12_settled (17, .iload_n 1, 1, 0, []) (List.mem_of_getElem? (i := 9) rfl)) rfl (j := 1) rfl ?_
    refine zp_call (pc := 18) (how := 0) (idx := 170) (mi := 183) (S := []) hx hb hE hw heff hrm (zX_te13 hW) rfl (j := 0) rfl rfl (by decide +kernel) (zd_X12_settled (18, .invokevirtual 170, 3, 0, []) (List.mem_of_getElem? (i := 10) rfl)) [(a : Int), p1] rfl ⟨zp_o2 hp, k1, trivial⟩ (Nat.le_of_ble_eq_true rfl) trivial (fun al hal rnt Pt Gt hextt hfrt hokt hcst hpsit => ?_)
    obtain rfl := List.mem_singleton.mp hal
    have hrt := zp_int (hokt _ rfl).1
    obtain ⟨rfl, hrn⟩ := hpsit
    have hrn : rnt = p1 := hrn
    refine zp_iret (pc := 21) (n := rnt) hx hb hE hQ hU5 rfl (by decide) (zd_X12_settled (21, .ireturn, 1, 0, []) (List.mem_of_getElem? (i := 11) rfl)) (j := 0) rfl (zp_o0 (by omega) (by omega) (by omega) (by omega)) ?_
    rw [hps]
    exact ⟨rfl, hrn⟩
def zK_im : zk_K := (zt_mn 185, prog_14_method_14_code, 3, (Option.some Jvm.ClassFile.FieldType.int), 1, 12, [(2, 13, 0, 0), (0, 0, (-2147483648), 2147483647)], [(some (0, 0, (-6), 0), [])], [(13, 0, 0), (60, 1001, 0), (61, 1001, 0), (13, 1, 0), (58, 1001, 0)], (1, 40, 0, 0))
def zK_bk : zk_K := (zt_mn 187, prog_14_method_15_code, 3, (Option.some Jvm.ClassFile.FieldType.int), 1, 12, [(2, 13, 0, 0), (0, 0, (-2147483648), 2147483647)], [(some (0, 0, (-6), 0), [])], [(13, 0, 0), (59, 1001, 0), (13, 8, 0), (13, 1, 0), (58, 1001, 0)], (2, 70, 0, 0))