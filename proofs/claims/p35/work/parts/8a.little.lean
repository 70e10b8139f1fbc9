/-! part 8a: WoundTown.little -/
/-- where it all stands -/
def li_I (a tn tr dy go ow a1 b1 : Nat) (P : Nat → Option Nat) (G : Nat → Nat → Int) : Prop := P a = some 12 ∧ P tn = some 10 ∧ P tr = some 2 ∧ P dy = some 0 ∧ P go = some 2 ∧ P ow = some 44 ∧ P a1 = some 18 ∧ P b1 = some 18 ∧ G a 0 = (tn : Int) ∧ G a 16 = (tr : Int) ∧ G a 4 = (dy : Int) ∧ G tn 18 = (go : Int) ∧ G tn 4 = (ow : Int) ∧ G tr 1 = (a1 : Int) ∧ G go 1 = (b1 : Int)
def li_t : Nat → Int
  | 0 => 0
  | k + 1 => li_t k + k
theorem li_tb (k : Nat) (h : k ≤ 9) : 0 ≤ li_t k ∧ li_t k + k + (9 - k : Nat) ≤ 45 := by
  have h : k = 0 ∨ k = 1 ∨ k = 2 ∨ k = 3 ∨ k = 4 ∨ k = 5 ∨ k = 6 ∨ k = 7 ∨ k = 8 ∨ k = 9 := by omega
  rcases h with rfl | rfl | rfl | rfl | rfl | rfl | rfl | rfl | rfl | rfl <;> decide
theorem li_fr {eff : List (Nat × Nat × Nat)} {ps : List Int} {a tn tr dy go ow a1 b1 : Nat} {P P' : Nat → Option Nat} {G G' : Nat → Nat → Int} (h : li_I a tn tr dy go ow a1 b1 P G) (hx : ∀ b t, P b = some t → P' b = some t) (hfr : zp_fr eff ps P G G') (he : (zp_nfb eff 12 0 && zp_nfb eff 12 16 && zp_nfb eff 12 4 && zp_nfb eff 10 18 && zp_nfb eff 10 4 && zp_nfb eff 2 1) = true) : li_I a tn tr dy go ow a1 b1 P' G' := by
  simp only [Bool.and_eq_true] at he
  obtain ⟨⟨⟨⟨⟨f0, f1⟩, f2⟩, f3⟩, f4⟩, f5⟩ := he
  exact ⟨hx _ _ h.1, hx _ _ h.2.1, hx _ _ h.2.2.1, hx _ _ h.2.2.2.1, hx _ _ h.2.2.2.2.1, hx _ _ h.2.2.2.2.2.1, hx _ _ h.2.2.2.2.2.2.1, hx _ _ h.2.2.2.2.2.2.2.1, (zp_nf hfr h.1 f0).trans h.2.2.2.2.2.2.2.2.1, (zp_nf hfr h.1 f1).trans h.2.2.2.2.2.2.2.2.2.1, (zp_nf hfr h.1 f2).trans h.2.2.2.2.2.2.2.2.2.2.1, (zp_nf hfr h.2.1 f3).trans h.2.2.2.2.2.2.2.2.2.2.2.1, (zp_nf hfr h.2.1 f4).trans h.2.2.2.2.2.2.2.2.2.2.2.2.1, (zp_nf hfr h.2.2.1 f5).trans h.2.2.2.2.2.2.2.2.2.2.2.2.2.1, (zp_nf hfr h.2.2.2.2.1 f5).trans h.2.2.2.2.2.2.2.2.2.2.2.2.2.2⟩
theorem li_set {a tn tr dy go ow a1 b1 b t k : Nat} {v : Int} {P : Nat → Option Nat} {G : Nat → Nat → Int} (h : li_I a tn tr dy go ow a1 b1 P G) (hb : P b = some t) (he : (t != 12 && (t != 10 && t != 2)) = true) : li_I a tn tr dy go ow a1 b1 P (zp_set G b k v) := by
  simp only [Bool.and_eq_true, bne_iff_ne] at he
  obtain ⟨e1, e2, e3⟩ := he
  exact ⟨h.1, h.2.1, h.2.2.1, h.2.2.2.1, h.2.2.2.2.1, h.2.2.2.2.2.1, h.2.2.2.2.2.2.1, h.2.2.2.2.2.2.2.1, (zp_set_ne (Or.inl (zp_pne h.1 hb (fun z => e1 z.symm)))).trans h.2.2.2.2.2.2.2.2.1, (zp_set_ne (Or.inl (zp_pne h.1 hb (fun z => e1 z.symm)))).trans h.2.2.2.2.2.2.2.2.2.1, (zp_set_ne (Or.inl (zp_pne h.1 hb (fun z => e1 z.symm)))).trans h.2.2.2.2.2.2.2.2.2.2.1, (zp_set_ne (Or.inl (zp_pne h.2.1 hb (fun z => e2 z.symm)))).trans h.2.2.2.2.2.2.2.2.2.2.2.1, (zp_set_ne (Or.inl (zp_pne h.2.1 hb (fun z => e2 z.symm)))).trans h.2.2.2.2.2.2.2.2.2.2.2.2.1, (zp_set_ne (Or.inl (zp_pne h.2.2.1 hb (fun z => e3 z.symm)))).trans h.2.2.2.2.2.2.2.2.2.2.2.2.2.1, (zp_set_ne (Or.inl (zp_pne h.2.2.2.2.1 hb (fun z => e3 z.symm)))).trans h.2.2.2.2.2.2.2.2.2.2.2.2.2.2⟩
def zK_li : zk_K := (zt_mn 148, prog_1_method_36_code, 6, (Option.some Jvm.ClassFile.FieldType.int), 1, 11, [(2, 12, 0, 0), (0, 0, (-2147483648), 2147483647), (0, 0, (-2147483648), 2147483647)], [(some (0, 0, (-2147483648), 2147483647), [])], [(17, 1001, 0), (18, 1001, 0), (19, 1001, 0), (2, 3, 0), (2, 4, 0), (2, 5, 0), (2, 6, 0), (0, 1, 0), (0, 2, 0), (6, 2, 0), (27, 1002, 0), (14, 1002, 0), (28, 1002, 0), (15, 1001, 0), (16, 1002, 0)], (6, 180, 0, 0))
def zψ_li : (Nat → Option Nat) → (Nat → Nat → Int) → List Int → (Nat → Option Nat) → (Nat → Nat → Int) → Int → Prop := fun P G ps P' G' rn => True
theorem zX_li {l : Launch} {w : zk_W} (hW : zh_W w) : zk_metX l w zt_dv zt_TB zK_li (zp_A zp_tA) (zp_B zψ_li) ∧ zk_cok w zt_TB zK_li := by
  refine zp_methW hW (pl := 1185) rfl (by decide +kernel) (fun p e R s m args below meth c Q u hx hb hE hQ hU5 heff hnL hok hφ => ?_)
  have hw := hW.1
  obtain ⟨p0, p1, p2, hps, k0, k1, k2⟩ := zp_ps3 hok
  obtain ⟨a, rfl, hp⟩ := zp_this k0
  have hrm : zk_Kr (zk_ev (zp_EW zK_li)) = zk_Kr zK_li := rfl
  rw [hps] at hφ ⊢
  have hi1 := zp_int k1
  have hi2 := zp_int k2
  show zp_J p l e R s m args below meth c Q w u [] 0 [(0, 2, (a : Int)), (1, 0, p1), (2, 0, p2)] [] u.1 (zp_n u.2.1)
  refine zp_kn (k := 0) (a := a) hw (show zp_fd 12 0 = some (11, 2, 10, 0, 0) from rfl) rfl hp (fun hktn => ?_)
  obtain ⟨tn, htn, qtn⟩ := zp_this hktn
  refine zp_kn (k := 16) (a := a) hw (show zp_fd 12 16 = some (11, 2, 2, 0, 0) from rfl) rfl hp (fun hktr => ?_)
  obtain ⟨tr, htr, qtr⟩ := zp_this hktr
  refine zp_kn (k := 4) (a := a) hw (show zp_fd 12 4 = some (11, 2, 0, 0, 0) from rfl) rfl hp (fun hkdy => ?_)
  obtain ⟨dy, hdy, qdy⟩ := zp_this hkdy
  refine zp_kn (k := 18) (a := tn) hw (show zp_fd 10 18 = some (9, 2, 2, 0, 0) from rfl) rfl qtn (fun hkgo => ?_)
  obtain ⟨go, hgo, qgo⟩ := zp_this hkgo
  refine zp_kn (k := 4) (a := tn) hw (show zp_fd 10 4 = some (9, 2, 44, 0, 0) from rfl) rfl qtn (fun hkow => ?_)
  obtain ⟨ow, how, qow⟩ := zp_this hkow
  refine zp_kn (k := 1) (a := tr) hw (show zp_fd 2 1 = some (2, 2, 18, 0, 0) from rfl) rfl qtr (fun hka1 => ?_)
  obtain ⟨a1, ha1, qa1⟩ := zp_this hka1
  refine zp_kn (k := 1) (a := go) hw (show zp_fd 2 1 = some (2, 2, 18, 0, 0) from rfl) rfl qgo (fun hkb1 => ?_)
  obtain ⟨b1, hb1, qb1⟩ := zp_this hkb1
  have hli : li_I a tn tr dy go ow a1 b1 u.1 (zp_n u.2.1) := ⟨hp, qtn, qtr, qdy, qgo, qow, qa1, qb1, htn, htr, hdy, hgo, how, ha1, hb1⟩
  have loop : ∀ (q : Nat) (x0 : Int), q < 6 → 0 ≤ x0 → x0 ≤ 45 → ∀ (n k : Nat) (P : Nat → Option Nat) (G : Nat → Nat → Int), 10 - k < n → k ≤ 10 → li_I a tn tr dy go ow a1 b1 P G → (a1 ≠ b1 ∧ G b1 (2000 + q) = x0 ∨ a1 = b1 ∧ G b1 (2000 + q) = x0 + li_t k) → zp_J p l e R s m args below meth c Q w u [] 85 [(5, 0, (k : Int)), (4, 0, 9 - x0), (3, 0, (q : Int)), (0, 2, (a : Int)), (1, 0, p1), (2, 0, p2)] [] P G := by
    intro q x0 hq6 h00 h01 n
    induction n with
    | zero => intro k P G h; exact absurd h (Nat.not_lt_zero _)
    | succ n ih =>
      intro k P G hn hk10 hli hinv
      refine zp_load (pc := 85) hx hb (zd_X11_little (85, .iload 5, 2, 0, []) (List.mem_of_getElem? (i := 44) rfl)) rfl (j := 0) rfl ?_
      refine zp_load (pc := 87) hx hb (zd_X11_little (87, .iload 4, 2, 0, []) (List.mem_of_getElem? (i := 45) rfl)) rfl (j := 1) rfl ?_
      refine zp_icmp (pc := 89) (tgt := 152) hx hb (zd_X11_little (89, .if_icmp .gt 63, 3, 0, []) (List.mem_of_getElem? (i := 46) rfl)) rfl (fun (hc185 : (9 - x0) < (k : Int)) => ?_) (fun (hc185 : ¬ ((9 - x0) < (k : Int))) => ?_)
      · refine zp_const (pc := 152) hx hb (zd_X11_little (152, .iconst (-1), 1, 0, []) (List.mem_of_getElem? (i := 77) rfl)) rfl rfl ?_
        refine zp_iret (pc := 153) (n := (-1)) hx hb hE hQ hU5 rfl (by decide) (zd_X11_little (153, .ireturn, 1, 0, []) (List.mem_of_getElem? (i := 78) rfl)) (j := 0) rfl (zp_o0 (by omega) (by omega) (by omega) (by omega)) ?_
        rw [hps]
        trivial
      · refine zp_load (pc := 92) hx hb (zd_X11_little (92, .aload_n 0, 1, 0, []) (List.mem_of_getElem? (i := 47) rfl)) rfl (j := 3) rfl ?_
        refine zp_getf (n := (tr : Int)) (pc := 93) hx hb hE hw (zd_X11_little (93, .getfield 101, 3, 0, []) (List.mem_of_getElem? (i := 48) rfl)) (j := 66) rfl rfl rfl hli.1 hli.2.2.2.2.2.2.2.2.2.1 ?_
        refine zp_getf (n := (a1 : Int)) (pc := 96) hx hb hE hw (zd_X11_little (96, .getfield 144, 3, 0, []) (List.mem_of_getElem? (i := 49) rfl)) (j := 3) rfl rfl rfl hli.2.2.1 hli.2.2.2.2.2.2.2.2.2.2.2.2.2.1 ?_
        refine zp_load (pc := 99) hx hb (zd_X11_little (99, .iload_n 3, 1, 0, []) (List.mem_of_getElem? (i := 50) rfl)) rfl (j := 2) rfl ?_
        refine zp_load (pc := 100) hx hb (zd_X11_little (100, .aload_n 0, 1, 0, []) (List.mem_of_getElem? (i := 51) rfl)) rfl (j := 3) rfl ?_
        refine zp_getf (n := (tn : Int)) (pc := 101) hx hb hE hw (zd_X11_little (101, .getfield 10, 3, 0, []) (List.mem_of_getElem? (i := 52) rfl)) (j := 50) rfl rfl rfl hli.1 hli.2.2.2.2.2.2.2.2.1 ?_
        refine zp_getf (n := (go : Int)) (pc := 104) hx hb hE hw (zd_X11_little (104, .getfield 135, 3, 0, []) (List.mem_of_getElem? (i := 53) rfl)) (j := 24) rfl rfl rfl hli.2.1 hli.2.2.2.2.2.2.2.2.2.2.2.1 ?_
        refine zp_getf (n := (b1 : Int)) (pc := 107) hx hb hE hw (zd_X11_little (107, .getfield 144, 3, 0, []) (List.mem_of_getElem? (i := 54) rfl)) (j := 3) rfl rfl rfl hli.2.2.2.2.1 hli.2.2.2.2.2.2.2.2.2.2.2.2.2.2 ?_
        refine zp_load (pc := 110) hx hb (zd_X11_little (110, .iload_n 3, 1, 0, []) (List.mem_of_getElem? (i := 55) rfl)) rfl (j := 2) rfl ?_
        obtain ⟨y, hy⟩ : ∃ y : Int, G b1 (2000 + q) = y := ⟨_, rfl⟩
        rw [hy] at hinv
        refine zp_iald (j := q) (v := y) (pc := 111) hx hb hw (zd_X11_little (111, .iaload, 1, 0, []) (List.mem_of_getElem? (i := 56) rfl)) (show zp_ia 1 18 = some (6, 0, 0, 0, 45) from rfl) hli.2.2.2.2.2.2.2.1 (by omega) (by omega) hy (fun hk186 => ?_)
        have hk186b := zp_int hk186
        have hkk : k ≤ 9 := by omega
        have htb := li_tb k hkk
        have hst : 0 ≤ y + (k : Int) ∧ y + (k : Int) ≤ 45 := by
          rcases hinv with ⟨-, h⟩ | ⟨-, h⟩ <;> omega
        refine zp_load (pc := 112) hx hb (zd_X11_little (112, .iload 5, 2, 0, []) (List.mem_of_getElem? (i := 57) rfl)) rfl (j := 0) rfl ?_
        refine zp_add (n := (y + (k : Int))) (pc := 114) hx hb (zd_X11_little (114, .iadd, 1, 0, []) (List.mem_of_getElem? (i := 58) rfl)) (by omega) (zp_r0 (by omega) (by omega)) ?_
        refine zp_iast (j := q) (pc := 115) hx hb hw heff (zd_X11_little (115, .iastore, 1, 0, []) (List.mem_of_getElem? (i := 59) rfl)) (show zp_ia 1 18 = some (6, 0, 0, 0, 45) from rfl) hli.2.2.2.2.2.2.1 (by omega) (by omega) (zp_o0 (by omega) (by omega) (by omega) (by omega)) rfl ?_
        refine zp_load (pc := 116) hx hb (zd_X11_little (116, .aload_n 0, 1, 0, []) (List.mem_of_getElem? (i := 60) rfl)) rfl (j := 3) rfl ?_
        refine zp_getf (n := (dy : Int)) (pc := 117) hx hb hE hw (zd_X11_little (117, .getfield 39, 3, 0, []) (List.mem_of_getElem? (i := 61) rfl)) (j := 54) rfl rfl rfl hli.1 ((zp_set_ne (Or.inl (zp_pne hli.1 hli.2.2.2.2.2.2.1 (by decide)))).trans (hli.2.2.2.2.2.2.2.2.2.2.1)) ?_
        refine zp_load (pc := 120) hx hb (zd_X11_little (120, .aload_n 0, 1, 0, []) (List.mem_of_getElem? (i := 62) rfl)) rfl (j := 3) rfl ?_
        refine zp_getf (n := (tn : Int)) (pc := 121) hx hb hE hw (zd_X11_little (121, .getfield 10, 3, 0, []) (List.mem_of_getElem? (i := 63) rfl)) (j := 50) rfl rfl rfl hli.1 ((zp_set_ne (Or.inl (zp_pne hli.1 hli.2.2.2.2.2.2.1 (by decide)))).trans (hli.2.2.2.2.2.2.2.2.1)) ?_
        refine zp_load (pc := 124) hx hb (zd_X11_little (124, .aload_n 0, 1, 0, []) (List.mem_of_getElem? (i := 64) rfl)) rfl (j := 3) rfl ?_
        refine zp_getf (n := (tr : Int)) (pc := 125) hx hb hE hw (zd_X11_little (125, .getfield 101, 3, 0, []) (List.mem_of_getElem? (i := 65) rfl)) (j := 66) rfl rfl rfl hli.1 ((zp_set_ne (Or.inl (zp_pne hli.1 hli.2.2.2.2.2.2.1 (by decide)))).trans (hli.2.2.2.2.2.2.2.2.2.1)) ?_
        refine zp_load (pc := 128) hx hb (zd_X11_little (128, .iload_n 2, 1, 0, []) (List.mem_of_getElem? (i := 66) rfl)) rfl (j := 5) rfl ?_
        have lis : li_I a tn tr dy go ow a1 b1 P (zp_set G a1 (2000 + q) (y + (k : Int))) := li_set hli hli.2.2.2.2.2.2.1 rfl
        have hinv2 : a1 ≠ b1 ∧ (zp_set G a1 (2000 + q) (y + (k : Int))) b1 (2000 + q) = x0 ∨ a1 = b1 ∧ (zp_set G a1 (2000 + q) (y + (k : Int))) b1 (2000 + q) = x0 + li_t (k + 1) := by
          rcases hinv with ⟨h1, h2⟩ | ⟨h1, h2⟩
          · exact Or.inl ⟨h1, by rw [zp_set_ne (Or.inl (fun z => h1 z.symm)), hy]; exact h2⟩
          · refine Or.inr ⟨h1, ?_⟩
            have h3 : (zp_set G a1 (2000 + q) (y + (k : Int))) b1 (2000 + q) = y + (k : Int) := by rw [h1]; exact zp_set_self
            rw [h3, h2]
            show x0 + li_t k + (k : Int) = x0 + (li_t k + (k : Int))
            omega
        refine zp_call (pc := 129) (how := 0) (idx := 350) (mi := 131) (S := []) hx hb hE hw heff hrm (zp_plain (zq_241 hW)) rfl (j := 47) rfl rfl (by decide +kernel) (zd_X11_little (129, .invokevirtual 350, 3, 0, []) (List.mem_of_getElem? (i := 67) rfl)) [(dy : Int), (tn : Int), (tr : Int), p2] rfl ⟨zp_o2 hli.2.2.2.1, zp_o2 hli.2.1, zp_o2 hli.2.2.1, zp_o0 (by omega) (by omega) (by omega) (by omega), trivial⟩ (Nat.le_of_ble_eq_true rfl) trivial (fun al hal rns Ps Gs hexts hfrs hoks hcss hpsis => ?_)
        obtain rfl := List.mem_singleton.mp hal
        have es : Gs b1 (2000 + q) = _ := zp_nc hfrs lis.2.2.2.2.2.2.2.1 (by decide +kernel) _
        have lis := li_fr lis hexts hfrs (by decide +kernel)
        refine zp_load (pc := 132) hx hb (zd_X11_little (132, .aload_n 0, 1, 0, []) (List.mem_of_getElem? (i := 68) rfl)) rfl (j := 3) rfl ?_
        refine zp_getf (n := (dy : Int)) (pc := 133) hx hb hE hw (zd_X11_little (133, .getfield 39, 3, 0, []) (List.mem_of_getElem? (i := 69) rfl)) (j := 54) rfl rfl rfl lis.1 lis.2.2.2.2.2.2.2.2.2.2.1 ?_
        refine zp_load (pc := 136) hx hb (zd_X11_little (136, .iload_n 1, 1, 0, []) (List.mem_of_getElem? (i := 70) rfl)) rfl (j := 4) rfl ?_
        refine zp_call (pc := 137) (how := 0) (idx := 384) (mi := 135) (S := []) hx hb hE hw heff hrm (zp_plain (zq_244 hW)) rfl (j := 54) rfl rfl (by decide +kernel) (zd_X11_little (137, .invokevirtual 384, 3, 0, []) (List.mem_of_getElem? (i := 71) rfl)) [(dy : Int), p1] rfl ⟨zp_o2 lis.2.2.2.1, zp_o0 (by omega) (by omega) (by omega) (by omega), trivial⟩ (Nat.le_of_ble_eq_true rfl) trivial (fun al hal rnt Pt Gt hextt hfrt hokt hcst hpsit => ?_)
        have hrnt : 0 ≤ rnt ∧ rnt ≤ 1 ∧ (∃ f, al.1 = some f ∧ f.1 = 0) := by
          rcases List.mem_cons.mp hal with rfl | hal
          · have h := zp_int (hokt _ rfl).1
            exact ⟨by omega, by omega, ⟨_, rfl, rfl⟩⟩
          · obtain rfl := List.mem_singleton.mp hal
            have h := zp_int (hokt _ rfl).1
            exact ⟨by omega, by omega, ⟨_, rfl, rfl⟩⟩
        obtain ⟨h0t, h1t, ⟨ft, hft, hf0t⟩⟩ := hrnt
        rw [hft]
        dsimp only
        rw [hf0t]
        have lit := li_fr lis hextt hfrt (by decide +kernel)
        have et : Gt b1 (2000 + q) = _ := zp_nc hfrt lis.2.2.2.2.2.2.2.1 (by decide +kernel) _
        refine zp_if (pc := 140) (tgt := 146) hx hb (zd_X11_little (140, .ifCond .eq 6, 3, 0, []) (List.mem_of_getElem? (i := 72) rfl)) rfl (fun (hc187 : rnt = 0) => ?_) (fun (hc187 : ¬ (rnt = 0)) => ?_)
        · refine zp_iinc (L' := [(5, 0, ((k : Int) + 1)), (4, 0, (9 - x0)), (3, 0, (q : Int)), (0, 2, (a : Int)), (1, 0, p1), (2, 0, p2)]) (n := ((k : Int) + 1)) (pc := 146) hx hb hnL (zd_X11_little (146, .iinc 5 1, 3, 0, []) (List.mem_of_getElem? (i := 75) rfl)) (j := 0) rfl (by omega) (zp_r0 (by omega) (by omega)) rfl rfl ?_
          refine zp_goto (tgt := 85) (pc := 149) hx hb (zd_X11_little (149, .goto (-64), 3, 0, []) (List.mem_of_getElem? (i := 76) rfl)) rfl ?_
          refine zp_drop (L' := [(5, 0, ((k + 1 : Nat) : Int)), (4, 0, 9 - x0), (3, 0, (q : Int)), (0, 2, (a : Int)), (1, 0, p1), (2, 0, p2)]) (by simp) ?_
          refine ih (k + 1) _ _ (by omega) (by omega) lit ?_
          rw [et, es]
          exact hinv2
        · refine zp_load (pc := 143) hx hb (zd_X11_little (143, .iload 5, 2, 0, []) (List.mem_of_getElem? (i := 73) rfl)) rfl (j := 0) rfl ?_
          refine zp_iret (pc := 145) (n := (k : Int)) hx hb hE hQ hU5 rfl (by decide) (zd_X11_little (145, .ireturn, 1, 0, []) (List.mem_of_getElem? (i := 74) rfl)) (j := 0) rfl (zp_o0 (by omega) (by omega) (by omega) (by omega)) ?_
          rw [hps]
          trivial
  refine zp_load (pc := 0) hx hb (zd_X11_little (0, .aload_n 0, 1, 0, []) (List.mem_of_getElem? (i := 0) rfl)) rfl (j := 0) rfl ?_
  refine zp_getf (n := (tn : Int)) (pc := 1) hx hb hE hw (zd_X11_little (1, .getfield 10, 3, 0, []) (List.mem_of_getElem? (i := 1) rfl)) (j := 50) rfl rfl rfl hli.1 hli.2.2.2.2.2.2.2.2.1 ?_
  refine zp_load (pc := 4) hx hb (zd_X11_little (4, .iload_n 1, 1, 0, []) (List.mem_of_getElem? (i := 2) rfl)) rfl (j := 1) rfl ?_
  refine zp_call (pc := 5) (how := 0) (idx := 150) (mi := 26) (S := []) hx hb hE hw heff hrm (zp_plain (zq_21 hW)) rfl (j := 17) rfl rfl (by decide +kernel) (zd_X11_little (5, .invokevirtual 150, 3, 0, []) (List.mem_of_getElem? (i := 3) rfl)) [(tn : Int), p1] rfl ⟨zp_o2 hli.2.1, zp_o0 (by omega) (by omega) (by omega) (by omega), trivial⟩ (Nat.le_of_ble_eq_true rfl) trivial (fun al hal rnw Pw Gw hextw hfrw hokw hcsw hpsiw => ?_)
  have hrnw : 0 ≤ rnw ∧ rnw ≤ 1 ∧ (∃ f, al.1 = some f ∧ f.1 = 0) ∧ (rnw = 1 → 0 ≤ p1 ∧ p1 ≤ 9) := by
    rcases List.mem_cons.mp hal with rfl | hal
    · have h := zp_int (hokw _ rfl).1
      exact ⟨by omega, by omega, ⟨_, rfl, rfl⟩, fun z => by omega⟩
    · obtain rfl := List.mem_singleton.mp hal
      have h := zp_int (hokw _ rfl).1
      have c1 : p1 ≤ 0 + 9 := hcsw (1, 99, 9) (List.mem_of_getElem? (i := 1) rfl)
      have c2 : 0 ≤ p1 + 0 := hcsw (99, 1, 0) (List.mem_of_getElem? (i := 3) rfl)
      exact ⟨by omega, by omega, ⟨_, rfl, rfl⟩, fun _ => ⟨by omega, by omega⟩⟩
  obtain ⟨h0w, h1w, ⟨fw, hfw, hf0w⟩, hzw⟩ := hrnw
  rw [hfw]
  dsimp only
  rw [hf0w]
  have liw := li_fr hli hextw hfrw (by decide +kernel)
  refine zp_if (pc := 8) (tgt := 29) hx hb (zd_X11_little (8, .ifCond .eq 21, 3, 0, []) (List.mem_of_getElem? (i := 4) rfl)) rfl (fun (hc188 : rnw = 0) => ?_) (fun (hc188 : ¬ (rnw = 0)) => ?_)
  · refine zp_const (pc := 29) hx hb (zd_X11_little (29, .iconst (-1), 1, 0, []) (List.mem_of_getElem? (i := 13) rfl)) rfl rfl ?_
    refine zp_iret (pc := 30) (n := (-1)) hx hb hE hQ hU5 rfl (by decide) (zd_X11_little (30, .ireturn, 1, 0, []) (List.mem_of_getElem? (i := 14) rfl)) (j := 0) rfl (zp_o0 (by omega) (by omega) (by omega) (by omega)) ?_
    rw [hps]
    trivial
  · refine zp_load (pc := 11) hx hb (zd_X11_little (11, .iload_n 2, 1, 0, []) (List.mem_of_getElem? (i := 5) rfl)) rfl (j := 2) rfl ?_
    refine zp_call (pc := 12) (how := 1) (idx := 292) (mi := 86) (S := []) hx hb hE hw heff hrm (zp_plain (zq_165 hW)) rfl (j := 31) rfl rfl (by decide +kernel) (zd_X11_little (12, .invokestatic 292, 3, 0, []) (List.mem_of_getElem? (i := 6) rfl)) [p2] rfl ⟨zp_o0 (by omega) (by omega) (by omega) (by omega), trivial⟩ (Nat.le_of_ble_eq_true rfl) trivial (fun al hal rnr Pr Gr hextr hfrr hokr hcsr hpsir => ?_)
    have hrnr : 0 ≤ rnr ∧ rnr ≤ 1 ∧ (∃ f, al.1 = some f ∧ f.1 = 0) := by
      rcases List.mem_cons.mp hal with rfl | hal
      · have h := zp_int (hokr _ rfl).1
        exact ⟨by omega, by omega, ⟨_, rfl, rfl⟩⟩
      · obtain rfl := List.mem_singleton.mp hal
        have h := zp_int (hokr _ rfl).1
        exact ⟨by omega, by omega, ⟨_, rfl, rfl⟩⟩
    obtain ⟨h0r, h1r, ⟨fr, hfr, hf0r⟩⟩ := hrnr
    rw [hfr]
    dsimp only
    rw [hf0r]
    have lir := li_fr liw hextr hfrr (by decide +kernel)
    refine zp_if (pc := 15) (tgt := 29) hx hb (zd_X11_little (15, .ifCond .eq 14, 3, 0, []) (List.mem_of_getElem? (i := 7) rfl)) rfl (fun (hc189 : rnr = 0) => ?_) (fun (hc189 : ¬ (rnr = 0)) => ?_)
    · refine zp_const (pc := 29) hx hb (zd_X11_little (29, .iconst (-1), 1, 0, []) (List.mem_of_getElem? (i := 13) rfl)) rfl rfl ?_
      refine zp_iret (pc := 30) (n := (-1)) hx hb hE hQ hU5 rfl (by decide) (zd_X11_little (30, .ireturn, 1, 0, []) (List.mem_of_getElem? (i := 14) rfl)) (j := 0) rfl (zp_o0 (by omega) (by omega) (by omega) (by omega)) ?_
      rw [hps]
      trivial
    · refine zp_load (pc := 18) hx hb (zd_X11_little (18, .aload_n 0, 1, 0, []) (List.mem_of_getElem? (i := 8) rfl)) rfl (j := 0) rfl ?_
      refine zp_getf (n := (tn : Int)) (pc := 19) hx hb hE hw (zd_X11_little (19, .getfield 10, 3, 0, []) (List.mem_of_getElem? (i := 9) rfl)) (j := 50) rfl rfl rfl lir.1 lir.2.2.2.2.2.2.2.2.1 ?_
      refine zp_load (pc := 22) hx hb (zd_X11_little (22, .iload_n 1, 1, 0, []) (List.mem_of_getElem? (i := 10) rfl)) rfl (j := 1) rfl ?_
      refine zp_call (pc := 23) (how := 0) (idx := 381) (mi := 25) (S := []) hx hb hE hw heff hrm (zp_plain (zq_22 hW)) rfl (j := 53) rfl rfl (by decide +kernel) (zd_X11_little (23, .invokevirtual 381, 3, 0, []) (List.mem_of_getElem? (i := 11) rfl)) [(tn : Int), p1] rfl ⟨zp_o2 lir.2.1, zp_o0 (by omega) (by omega) (by omega) (by omega), trivial⟩ (Nat.le_of_ble_eq_true rfl) trivial (fun al hal rnd Pd Gd hextd hfrd hokd hcsd hpsid => ?_)
      have hrnd : 0 ≤ rnd ∧ rnd ≤ 1 ∧ (∃ f, al.1 = some f ∧ f.1 = 0) := by
        rcases List.mem_cons.mp hal with rfl | hal
        · have h := zp_int (hokd _ rfl).1
          exact ⟨by omega, by omega, ⟨_, rfl, rfl⟩⟩
        · obtain rfl := List.mem_singleton.mp hal
          have h := zp_int (hokd _ rfl).1
          exact ⟨by omega, by omega, ⟨_, rfl, rfl⟩⟩
      obtain ⟨h0d, h1d, ⟨fd, hfd, hf0d⟩⟩ := hrnd
      rw [hfd]
      dsimp only
      rw [hf0d]
      have lid := li_fr lir hextd hfrd (by decide +kernel)
      refine zp_if (pc := 26) (tgt := 31) hx hb (zd_X11_little (26, .ifCond .eq 5, 3, 0, []) (List.mem_of_getElem? (i := 12) rfl)) rfl (fun (hc190 : rnd = 0) => ?_) (fun (hc190 : ¬ (rnd = 0)) => ?_)
      · refine zp_load (pc := 31) hx hb (zd_X11_little (31, .aload_n 0, 1, 0, []) (List.mem_of_getElem? (i := 15) rfl)) rfl (j := 0) rfl ?_
        refine zp_getf (n := (tn : Int)) (pc := 32) hx hb hE hw (zd_X11_little (32, .getfield 10, 3, 0, []) (List.mem_of_getElem? (i := 16) rfl)) (j := 50) rfl rfl rfl lid.1 lid.2.2.2.2.2.2.2.2.1 ?_
        refine zp_getf (n := (ow : Int)) (pc := 35) hx hb hE hw (zd_X11_little (35, .getfield 160, 3, 0, []) (List.mem_of_getElem? (i := 17) rfl)) (j := 13) rfl rfl rfl lid.2.1 lid.2.2.2.2.2.2.2.2.2.2.2.2.1 ?_
        refine zp_load (pc := 38) hx hb (zd_X11_little (38, .iload_n 1, 1, 0, []) (List.mem_of_getElem? (i := 18) rfl)) rfl (j := 1) rfl ?_
        obtain ⟨p1n, hp1n⟩ := zp_nat (n := p1) (hzw (by omega)).1
        have hp1b := (hzw (by omega)).2
        obtain ⟨ps3, hps3⟩ : ∃ x : Int, Gd ow (2000 + p1n) = x := ⟨_, rfl⟩
        refine zp_iald (j := p1n) (v := ps3) (pc := 39) hx hb hw (zd_X11_little (39, .iaload, 1, 0, []) (List.mem_of_getElem? (i := 19) rfl)) (show zp_ia 1 44 = some (10, 0, 0, (-2147483648), 2147483647) from rfl) lid.2.2.2.2.2.1 hp1n (by omega) hps3 (fun hkps => ?_)
        have hpsb := zp_int hkps
        refine zp_store (L' := [(3, 0, ps3), (0, 2, (a : Int)), (1, 0, p1), (2, 0, p2)]) (pc := 40) hx hb hnL (zd_X11_little (40, .istore_n 3, 1, 0, []) (List.mem_of_getElem? (i := 20) rfl)) rfl rfl rfl ?_
        refine zp_load (pc := 41) hx hb (zd_X11_little (41, .aload_n 0, 1, 0, []) (List.mem_of_getElem? (i := 21) rfl)) rfl (j := 1) rfl ?_
        refine zp_getf (n := (tn : Int)) (pc := 42) hx hb hE hw (zd_X11_little (42, .getfield 10, 3, 0, []) (List.mem_of_getElem? (i := 22) rfl)) (j := 50) rfl rfl rfl lid.1 lid.2.2.2.2.2.2.2.2.1 ?_
        refine zp_load (pc := 45) hx hb (zd_X11_little (45, .iload_n 3, 1, 0, []) (List.mem_of_getElem? (i := 23) rfl)) rfl (j := 0) rfl ?_
        refine zp_call (pc := 46) (how := 0) (idx := 131) (mi := 22) (S := []) hx hb hE hw heff hrm (zp_plain (zq_19 hW)) rfl (j := 15) rfl rfl (by decide +kernel) (zd_X11_little (46, .invokevirtual 131, 3, 0, []) (List.mem_of_getElem? (i := 24) rfl)) [(tn : Int), ps3] rfl ⟨zp_o2 lid.2.1, zp_o0 (by omega) (by omega) (by omega) (by omega), trivial⟩ (Nat.le_of_ble_eq_true rfl) trivial (fun al hal rne Pe Ge hexte hfre hoke hcse hpsie => ?_)
        have hrne : 0 ≤ rne ∧ rne ≤ 1 ∧ (∃ f, al.1 = some f ∧ f.1 = 0) ∧ (rne = 1 → 0 ≤ ps3 ∧ ps3 ≤ 5) := by
          rcases List.mem_cons.mp hal with rfl | hal
          · have h := zp_int (hoke _ rfl).1
            exact ⟨by omega, by omega, ⟨_, rfl, rfl⟩, fun z => by omega⟩
          · obtain rfl := List.mem_singleton.mp hal
            have h := zp_int (hoke _ rfl).1
            have c1 : ps3 ≤ 0 + 5 := hcse (1, 99, 5) (List.mem_of_getElem? (i := 1) rfl)
            have c2 : 0 ≤ ps3 + 0 := hcse (99, 1, 0) (List.mem_of_getElem? (i := 3) rfl)
            exact ⟨by omega, by omega, ⟨_, rfl, rfl⟩, fun _ => ⟨by omega, by omega⟩⟩
        obtain ⟨h0e, h1e, ⟨fe, hfe, hf0e⟩, hze⟩ := hrne
        rw [hfe]
        dsimp only
        rw [hf0e]
        have lie := li_fr lid hexte hfre (by decide +kernel)
        refine zp_if (pc := 49) (tgt := 54) hx hb (zd_X11_little (49, .ifCond .ne 5, 3, 0, []) (List.mem_of_getElem? (i := 25) rfl)) rfl (fun (hc191 : ¬ rne = 0) => ?_) (fun (hc191 : ¬ (¬ rne = 0)) => ?_)
        · refine zp_load (pc := 54) hx hb (zd_X11_little (54, .aload_n 0, 1, 0, []) (List.mem_of_getElem? (i := 28) rfl)) rfl (j := 1) rfl ?_
          refine zp_getf (n := (tr : Int)) (pc := 55) hx hb hE hw (zd_X11_little (55, .getfield 101, 3, 0, []) (List.mem_of_getElem? (i := 29) rfl)) (j := 66) rfl rfl rfl lie.1 lie.2.2.2.2.2.2.2.2.2.1 ?_
          refine zp_load (pc := 58) hx hb (zd_X11_little (58, .aload_n 0, 1, 0, []) (List.mem_of_getElem? (i := 30) rfl)) rfl (j := 1) rfl ?_
          refine zp_getf (n := (tn : Int)) (pc := 59) hx hb hE hw (zd_X11_little (59, .getfield 10, 3, 0, []) (List.mem_of_getElem? (i := 31) rfl)) (j := 50) rfl rfl rfl lie.1 lie.2.2.2.2.2.2.2.2.1 ?_
          refine zp_getf (n := (go : Int)) (pc := 62) hx hb hE hw (zd_X11_little (62, .getfield 135, 3, 0, []) (List.mem_of_getElem? (i := 32) rfl)) (j := 24) rfl rfl rfl lie.2.1 lie.2.2.2.2.2.2.2.2.2.2.2.1 ?_
          obtain ⟨q, hq⟩ := zp_nat (n := ps3) (hze (by omega)).1
          have hq6 := (hze (by omega)).2
          subst hq
          refine zp_call (pc := 65) (how := 0) (idx := 226) (mi := 80) (S := []) hx hb hE hw heff hrm (zX_cf hW) rfl (j := 25) rfl rfl (by decide +kernel) (zd_X11_little (65, .invokevirtual 226, 3, 0, []) (List.mem_of_getElem? (i := 33) rfl)) [(tr : Int), (go : Int)] rfl ⟨zp_o2 lie.2.2.1, zp_o2 lie.2.2.2.2.1, trivial⟩ (Nat.le_of_ble_eq_true rfl) trivial (fun al hal rnc Pc Gc hextc hfrc hokc hcsc hpsic => ?_)
          obtain rfl := List.mem_singleton.mp hal
          obtain ⟨hPc, hlc⟩ := hpsic
          have hlq : zv Gc tr 1 q = zv Gc go 1 q := hlc q (by omega)
          have lic := li_fr lie hextc hfrc (by decide +kernel)
          rw [zv_eq lic.2.2.2.2.2.2.2.2.2.2.2.2.2.1, zv_eq lic.2.2.2.2.2.2.2.2.2.2.2.2.2.2] at hlq
          refine zp_const (pc := 68) hx hb (zd_X11_little (68, .bipush 9, 2, 0, []) (List.mem_of_getElem? (i := 34) rfl)) rfl rfl ?_
          refine zp_load (pc := 70) hx hb (zd_X11_little (70, .aload_n 0, 1, 0, []) (List.mem_of_getElem? (i := 35) rfl)) rfl (j := 1) rfl ?_
          refine zp_getf (n := (tr : Int)) (pc := 71) hx hb hE hw (zd_X11_little (71, .getfield 101, 3, 0, []) (List.mem_of_getElem? (i := 36) rfl)) (j := 66) rfl rfl rfl lic.1 lic.2.2.2.2.2.2.2.2.2.1 ?_
          refine zp_getf (n := (a1 : Int)) (pc := 74) hx hb hE hw (zd_X11_little (74, .getfield 144, 3, 0, []) (List.mem_of_getElem? (i := 37) rfl)) (j := 3) rfl rfl rfl lic.2.2.1 lic.2.2.2.2.2.2.2.2.2.2.2.2.2.1 ?_
          refine zp_load (pc := 77) hx hb (zd_X11_little (77, .iload_n 3, 1, 0, []) (List.mem_of_getElem? (i := 38) rfl)) rfl (j := 0) rfl ?_
          obtain ⟨x0, hx0⟩ : ∃ x : Int, Gc a1 (2000 + q) = x := ⟨_, rfl⟩
          refine zp_iald (j := q) (v := x0) (pc := 78) hx hb hw (zd_X11_little (78, .iaload, 1, 0, []) (List.mem_of_getElem? (i := 39) rfl)) (show zp_ia 1 18 = some (6, 0, 0, 0, 45) from rfl) lic.2.2.2.2.2.2.1 rfl (by omega) hx0 (fun hkx => ?_)
          have hxb := zp_int hkx
          refine zp_sub (n := (9 - x0)) (pc := 79) hx hb (zd_X11_little (79, .isub, 1, 0, []) (List.mem_of_getElem? (i := 40) rfl)) (by omega) (zp_r0 (by omega) (by omega)) ?_
          refine zp_store (L' := [(4, 0, (9 - x0)), (3, 0, (q : Int)), (0, 2, (a : Int)), (1, 0, p1), (2, 0, p2)]) (pc := 80) hx hb hnL (zd_X11_little (80, .istore 4, 2, 0, []) (List.mem_of_getElem? (i := 41) rfl)) rfl rfl rfl ?_
          refine zp_const (pc := 82) hx hb (zd_X11_little (82, .iconst 0, 1, 0, []) (List.mem_of_getElem? (i := 42) rfl)) rfl rfl ?_
          refine zp_store (L' := [(5, 0, 0), (4, 0, (9 - x0)), (3, 0, (q : Int)), (0, 2, (a : Int)), (1, 0, p1), (2, 0, p2)]) (pc := 83) hx hb hnL (zd_X11_little (83, .istore 5, 2, 0, []) (List.mem_of_getElem? (i := 43) rfl)) rfl rfl rfl ?_
          refine zp_drop (L' := [(5, 0, ((0 : Nat) : Int)), (4, 0, 9 - x0), (3, 0, (q : Int)), (0, 2, (a : Int)), (1, 0, p1), (2, 0, p2)]) (by simp) ?_
          refine loop q x0 (by omega) (by omega) (by omega) 11 0 _ _ (by omega) (by omega) lic ?_
          by_cases h : a1 = b1
          · exact Or.inr ⟨h, by rw [← hlq, hx0]; show x0 = x0 + 0; omega⟩
          · exact Or.inl ⟨h, by rw [← hlq, hx0]⟩
        · refine zp_const (pc := 52) hx hb (zd_X11_little (52, .iconst (-1), 1, 0, []) (List.mem_of_getElem? (i := 26) rfl)) rfl rfl ?_
          refine zp_iret (pc := 53) (n := (-1)) hx hb hE hQ hU5 rfl (by decide) (zd_X11_little (53, .ireturn, 1, 0, []) (List.mem_of_getElem? (i := 27) rfl)) (j := 0) rfl (zp_o0 (by omega) (by omega) (by omega) (by omega)) ?_
          rw [hps]
          trivial
      · refine zp_const (pc := 29) hx hb (zd_X11_little (29, .iconst (-1), 1, 0, []) (List.mem_of_getElem? (i := 13) rfl)) rfl rfl ?_
        refine zp_iret (pc := 30) (n := (-1)) hx hb hE hQ hU5 rfl (by decide) (zd_X11_little (30, .ireturn, 1, 0, []) (List.mem_of_getElem? (i := 14) rfl)) (j := 0) rfl (zp_o0 (by omega) (by omega) (by omega) (by omega)) ?_
        rw [hps]
        trivial
