/-! part 63: the parser: behindSum, behindTest -/
def zK_bs : zk_K := (zt_mn 229, prog_14_method_56_code, 4, (Option.some Jvm.ClassFile.FieldType.int), 1, 12, [(2, 92, 0, 0), (0, 0, 0, 1)], [(some (0, 0, 1, 4), [])], [(92, 14, 0), (92, 15, 0), (92, 16, 0), (92, 17, 0), (92, 18, 0), (92, 19, 0), (92, 30, 0), (92, 29, 0), (92, 23, 0), (68, 1001, 0), (69, 1001, 0), (70, 1001, 0), (71, 1001, 0)], (4, 190, 0, 0))
def zφ_bs : (Nat → Option Nat) → (Nat → Nat → Int) → List Int → Prop := fun _ G ps => ∃ first : Nat, zs first 1 1 (zp_0 ps) G
def zψ_bs : (Nat → Option Nat) → (Nat → Nat → Int) → List Int → (Nat → Option Nat) → (Nat → Nat → Int) → Int → Prop := fun P G ps P' G' rn => P' = P ∧ (rn = 1 ∨ rn = 2 ∨ rn = 3 ∨ rn = 4) ∧ (rn = 2 → G' = G) ∧ (rn = 4 → G' = G ∧ ∀ i : Nat, (i : Int) < G (zp_0 ps) 29 → zv G (zp_0 ps) 27 i < 31) ∧ ∀ first : Nat, zs first 1 1 (zp_0 ps) G → (rn = 1 → zs_go (zp_0 ps) first 0 1 G G') ∧ (rn = 3 → zs_go (zp_0 ps) first 1 1 G G') ∧ (rn = 2 → G (zp_0 ps) 19 = 0 → zs first 1 0 (zp_0 ps) G)
theorem zX_bs {l : Launch} {w : zk_W} (hW : zh_W w) : zk_metX l w zt_dv zt_TB zK_bs (zp_A zφ_bs) (zp_B zψ_bs) ∧ zk_cok w zt_TB zK_bs := by
  refine zp_meth hW (pl := 1758) rfl (by decide +kernel) (fun p e R s m args below meth c Q u hx hb hE hQ hU5 heff hnL hok hφ => ?_)
  have hw := hW.1
  obtain ⟨p0, p1, hps, k0, k1⟩ := zp_ps2 hok
  obtain ⟨a, rfl, hp⟩ := zp_this k0
  have hrm : zk_Kr (zk_ev (zp_E zK_bs)) = zk_Kr zK_bs := rfl
  rw [hps] at hφ ⊢
  have hi1 := zp_int k1
  have hφ : ∃ first : Nat, zs first 1 1 a (zp_n u.2.1) := hφ
  obtain ⟨f0, hzs⟩ := hφ
  have hzs2 := hzs
  obtain ⟨htk, nc, pd, hnc, hpd, hsp, hsq⟩ := hzs2
  have hw2 := hsp.2.1
  have hw3 := hsp.2.2.1
  have hw4 := hsp.2.2.2
  have htk2 := htk
  obtain ⟨t1, t2, t3, t4, t5, t6⟩ := htk2
  show zp_J p l e R s m args below meth c Q w u [] 0 [(0, 2, (a : Int)), (1, 0, p1)] [] u.1 (zp_n u.2.1)
  refine zp_kn (k := 24) (a := a) hw (show zp_fd 92 24 = some (12, 2, 68, 0, 0) from rfl) rfl hp (fun hk24 => ?_)
  obtain ⟨b24, hb24, hq24⟩ := zp_this hk24
  refine zp_kn (k := 25) (a := a) hw (show zp_fd 92 25 = some (12, 2, 69, 0, 0) from rfl) rfl hp (fun hk25 => ?_)
  obtain ⟨b25, hb25, hq25⟩ := zp_this hk25
  refine zp_kn (k := 27) (a := a) hw (show zp_fd 92 27 = some (12, 2, 70, 0, 0) from rfl) rfl hp (fun hk27 => ?_)
  obtain ⟨b27, hb27, hq27⟩ := zp_this hk27
  refine zp_kn (k := 28) (a := a) hw (show zp_fd 92 28 = some (12, 2, 71, 0, 0) from rfl) rfl hp (fun hk28 => ?_)
  obtain ⟨b28, hb28, hq28⟩ := zp_this hk28
  refine zp_kn (k := 13) (a := a) hw (show zp_fd 92 13 = some (12, 0, 0, 0, 400) from rfl) rfl hp (fun hk13 => ?_)
  have hxb := zp_int hk13
  refine zp_kn (k := 19) (a := a) hw (show zp_fd 92 19 = some (12, 0, 0, 0, 1) from rfl) rfl hp (fun hk19 => ?_)
  have hxb := zp_int hk19
  have h72 : ∀ (op : Int), (op = -1 ∨ (20 ≤ op ∧ op ≤ 24 ∧ zp_n u.2.1 a 16 = 3)) → zp_J p l e R s m args below meth c Q w u [] 72 [(2, 0, op), (0, 2, (a : Int)), (1, 0, p1)] [] u.1 (zp_n u.2.1) := by
    intro op hop
    refine zp_load (pc := 72) hx hb (zd_X12_behindSum (72, .iload_n 2, 1, 0, []) (List.mem_of_getElem? (i := 32) rfl)) rfl (j := 0) rfl ?_
    refine zp_const (pc := 73) hx hb (zd_X12_behindSum (73, .iconst (-1), 1, 0, []) (List.mem_of_getElem? (i := 33) rfl)) rfl rfl ?_
    refine zp_icmp (pc := 74) (tgt := 97) hx hb (zd_X12_behindSum (74, .if_icmp .eq 23, 3, 0, []) (List.mem_of_getElem? (i := 34) rfl)) rfl (fun (hc79 : op = (-1)) => ?_) (fun (hc79 : ¬ (op = (-1))) => ?_)
    · refine zp_load (pc := 97) hx hb (zd_X12_behindSum (97, .aload_n 0, 1, 0, []) (List.mem_of_getElem? (i := 47) rfl)) rfl (j := 1) rfl ?_
      refine zp_call (pc := 98) (how := 0) (idx := 347) (mi := 232) (S := []) hx hb hE hw heff hrm (zX_nn hW) rfl (j := 34) rfl rfl (by decide +kernel) (zd_X12_behindSum (98, .invokevirtual 347, 3, 0, []) (List.mem_of_getElem? (i := 48) rfl)) [(a : Int)] rfl ⟨zp_o2 hp, trivial⟩ (Nat.le_of_ble_eq_true rfl) (show ∀ i : Nat, (i : Int) < zp_n u.2.1 a 29 → zv (zp_n u.2.1) a 27 i ≤ 32 from fun i hi => (hw4 i (by omega)).2.1) (fun al hal rni Pi Gi hexti hfri hoki hcsi hpsii => ?_)
      obtain rfl := List.mem_singleton.mp hal
      have hri := zp_int (hoki _ rfl).1
      obtain ⟨hPei, hGei, hti⟩ := hpsii
      rw [hPei, hGei]
      have hti : (rni = -1 ∧ ∀ i : Nat, (i : Int) < zp_n u.2.1 a 29 → zv (zp_n u.2.1) a 27 i < 31) ∨ ∃ i : Nat, (i : Int) < zp_n u.2.1 a 29 ∧ zv (zp_n u.2.1) a 27 i = rni ∧ 31 ≤ rni ∧ ∀ j : Nat, i < j → (j : Int) < zp_n u.2.1 a 29 → zv (zp_n u.2.1) a 27 j < 31 := hti
      refine zp_store (L' := [(3, 0, rni), (2, 0, op), (0, 2, (a : Int)), (1, 0, p1)]) (pc := 101) hx hb hnL (zd_X12_behindSum (101, .istore_n 3, 1, 0, []) (List.mem_of_getElem? (i := 49) rfl)) rfl rfl rfl ?_
      refine zp_load (pc := 102) hx hb (zd_X12_behindSum (102, .iload_n 3, 1, 0, []) (List.mem_of_getElem? (i := 50) rfl)) rfl (j := 0) rfl ?_
      refine zp_const (pc := 103) hx hb (zd_X12_behindSum (103, .bipush 32, 2, 0, []) (List.mem_of_getElem? (i := 51) rfl)) rfl rfl ?_
      refine zp_icmp (pc := 105) (tgt := 152) hx hb (zd_X12_behindSum (105, .if_icmp .ne 47, 3, 0, []) (List.mem_of_getElem? (i := 52) rfl)) rfl (fun (hc80 : ¬ rni = 32) => ?_) (fun (hc80 : ¬ (¬ rni = 32)) => ?_)
      · refine zp_load (pc := 152) hx hb (zd_X12_behindSum (152, .iload_n 3, 1, 0, []) (List.mem_of_getElem? (i := 78) rfl)) rfl (j := 0) rfl ?_
        refine zp_const (pc := 153) hx hb (zd_X12_behindSum (153, .iconst (-1), 1, 0, []) (List.mem_of_getElem? (i := 79) rfl)) rfl rfl ?_
        refine zp_icmp (pc := 154) (tgt := 163) hx hb (zd_X12_behindSum (154, .if_icmp .ne 9, 3, 0, []) (List.mem_of_getElem? (i := 80) rfl)) rfl (fun (hc81 : ¬ rni = (-1)) => ?_) (fun (hc81 : ¬ (¬ rni = (-1))) => ?_)
        · refine zp_load (pc := 163) hx hb (zd_X12_behindSum (163, .aload_n 0, 1, 0, []) (List.mem_of_getElem? (i := 85) rfl)) rfl (j := 2) rfl ?_
          refine zp_call (pc := 164) (how := 0) (idx := 350) (mi := 233) (S := []) hx hb hE hw heff hrm (zX_ic hW) rfl (j := 35) rfl rfl (by decide +kernel) (zd_X12_behindSum (164, .invokevirtual 350, 3, 0, []) (List.mem_of_getElem? (i := 86) rfl)) [(a : Int)] rfl ⟨zp_o2 hp, trivial⟩ (Nat.le_of_ble_eq_true rfl) trivial (fun al hal rnc Pc Gc hextc hfrc hokc hcsc hpsic => ?_)
          obtain rfl := List.mem_singleton.mp hal
          have hrc := zp_int (hokc _ rfl).1
          obtain ⟨hPec, hGec⟩ := hpsic
          rw [hPec, hGec]
          have hnb : (∀ i, i < pd → zv (zp_n u.2.1) a 27 i < 31) ∨ ∃ i, i < pd ∧ zv (zp_n u.2.1) a 27 i = 31 ∧ ∀ j, i < j → j < pd → zv (zp_n u.2.1) a 27 j < 31 := by
            rcases hti with ⟨h1, h2⟩ | ⟨i, h1, h2, h3, h4⟩
            · exact Or.inl fun i hi => h2 i (by omega)
            · have h5 := (hw4 i (by omega)).2.1
              exact Or.inr ⟨i, by omega, by omega, fun j h6 h7 => h4 j h6 (by omega)⟩
          refine zp_if (pc := 167) (tgt := 172) hx hb (zd_X12_behindSum (167, .ifCond .eq 5, 3, 0, []) (List.mem_of_getElem? (i := 87) rfl)) rfl (fun (hc82 : rnc = 0) => ?_) (fun (hc82 : ¬ (rnc = 0)) => ?_)
          · refine zp_load (pc := 172) hx hb (zd_X12_behindSum (172, .aload_n 0, 1, 0, []) (List.mem_of_getElem? (i := 90) rfl)) rfl (j := 2) rfl ?_
            refine zp_const (pc := 173) hx hb (zd_X12_behindSum (173, .bipush 60, 2, 0, []) (List.mem_of_getElem? (i := 91) rfl)) rfl rfl ?_
            refine zp_call (pc := 175) (how := 0) (idx := 313) (mi := 221) (S := []) hx hb hE hw heff hrm (zX_si hW) rfl (j := 23) rfl rfl (by decide +kernel) (zd_X12_behindSum (175, .invokevirtual 313, 3, 0, []) (List.mem_of_getElem? (i := 92) rfl)) [(a : Int), 60] rfl ⟨zp_o2 hp, zp_o0 (by decide) (by decide) (by decide) (by decide), trivial⟩ (Nat.le_of_ble_eq_true rfl) trivial (fun al hal rnx Px Gx hextx hfrx hokx hcsx hpsix => ?_)
            obtain rfl := List.mem_singleton.mp hal
            have hrx := zp_int (hokx _ rfl).1
            obtain ⟨hPex, hGex, htx⟩ := hpsix
            rw [hPex, hGex]
            have htx : rnx = 1 → zp_n u.2.1 a 16 = 3 := htx
            refine zp_if (pc := 178) (tgt := 186) hx hb (zd_X12_behindSum (178, .ifCond .eq 8, 3, 0, []) (List.mem_of_getElem? (i := 93) rfl)) rfl (fun (hc83 : rnx = 0) => ?_) (fun (hc83 : ¬ (rnx = 0)) => ?_)
            · refine zp_load (pc := 186) hx hb (zd_X12_behindSum (186, .aload_n 0, 1, 0, []) (List.mem_of_getElem? (i := 96) rfl)) rfl (j := 2) rfl ?_
              refine zp_const (pc := 187) hx hb (zd_X12_behindSum (187, .bipush 62, 2, 0, []) (List.mem_of_getElem? (i := 97) rfl)) rfl rfl ?_
              refine zp_call (pc := 189) (how := 0) (idx := 313) (mi := 221) (S := []) hx hb hE hw heff hrm (zX_si hW) rfl (j := 23) rfl rfl (by decide +kernel) (zd_X12_behindSum (189, .invokevirtual 313, 3, 0, []) (List.mem_of_getElem? (i := 98) rfl)) [(a : Int), 62] rfl ⟨zp_o2 hp, zp_o0 (by decide) (by decide) (by decide) (by decide), trivial⟩ (Nat.le_of_ble_eq_true rfl) trivial (fun al hal rny Py Gy hexty hfry hoky hcsy hpsiy => ?_)
              obtain rfl := List.mem_singleton.mp hal
              have hry := zp_int (hoky _ rfl).1
              obtain ⟨hPey, hGey, hty⟩ := hpsiy
              rw [hPey, hGey]
              have hty : rny = 1 → zp_n u.2.1 a 16 = 3 := hty
              refine zp_if (pc := 192) (tgt := 200) hx hb (zd_X12_behindSum (192, .ifCond .eq 8, 3, 0, []) (List.mem_of_getElem? (i := 99) rfl)) rfl (fun (hc84 : rny = 0) => ?_) (fun (hc84 : ¬ (rny = 0)) => ?_)
              · refine zp_const (pc := 200) hx hb (zd_X12_behindSum (200, .bipush 27, 2, 0, []) (List.mem_of_getElem? (i := 102) rfl)) rfl rfl ?_
                refine zp_store (L' := [(2, 0, 27), (3, 0, rni), (0, 2, (a : Int)), (1, 0, p1)]) (pc := 202) hx hb hnL (zd_X12_behindSum (202, .istore_n 2, 1, 0, []) (List.mem_of_getElem? (i := 103) rfl)) rfl rfl rfl ?_
                refine zp_load (pc := 203) hx hb (zd_X12_behindSum (203, .aload_n 0, 1, 0, []) (List.mem_of_getElem? (i := 104) rfl)) rfl (j := 2) rfl ?_
                refine zp_load (pc := 204) hx hb (zd_X12_behindSum (204, .iload_n 2, 1, 0, []) (List.mem_of_getElem? (i := 105) rfl)) rfl (j := 0) rfl ?_
                refine zp_const (pc := 205) hx hb (zd_X12_behindSum (205, .bipush 27, 2, 0, []) (List.mem_of_getElem? (i := 106) rfl)) rfl rfl ?_
                refine zp_icmp (pc := 207) (tgt := 219) hx hb (zd_X12_behindSum (207, .if_icmp .ne 12, 3, 0, []) (List.mem_of_getElem? (i := 107) rfl)) rfl (fun (hc85 : ¬ 27 = 27) => ?_) (fun (hc85 : ¬ (¬ 27 = 27)) => ?_)
                · refine zp_const (pc := 219) hx hb (zd_X12_behindSum (219, .iconst 1, 1, 0, []) (List.mem_of_getElem? (i := 112) rfl)) rfl rfl ?_
                  refine zp_goto (tgt := 224) (pc := 220) hx hb (zd_X12_behindSum (220, .goto 4, 3, 0, []) (List.mem_of_getElem? (i := 113) rfl)) rfl ?_
                  refine zp_call (pc := 224) (how := 0) (idx := 275) (mi := 217) (S := []) hx hb hE hw heff hrm (zX_mu hW) rfl (j := 19) rfl rfl (by decide +kernel) (zd_X12_behindSum (224, .invokevirtual 275, 3, 0, []) (List.mem_of_getElem? (i := 115) rfl)) [(a : Int), 1] rfl ⟨zp_o2 hp, zp_o0 (by omega) (by omega) (by omega) (by omega), trivial⟩ (Nat.le_of_ble_eq_true rfl) htk (fun al hal rnm Pm Gm hextm hfrm hokm hcsm hpsim => ?_)
                  obtain rfl := List.mem_singleton.mp hal
                  obtain ⟨rfl, htm, hmm⟩ := hpsim
                  have htm : zs_tk a Gm := htm
                  have hmm : zs_mu a 1 (zp_n u.2.1) Gm := hmm
                  have htm2 := htm
                  obtain ⟨m1, m2, m3, m4, m5, m6⟩ := htm2
                  have m24 : Gm a 24 = (b24 : Int) := (zp_nf hfrm hp rfl).trans hb24
                  have m25 : Gm a 25 = (b25 : Int) := (zp_nf hfrm hp rfl).trans hb25
                  have m27 : Gm a 27 = (b27 : Int) := (zp_nf hfrm hp rfl).trans hb27
                  have m28 : Gm a 28 = (b28 : Int) := (zp_nf hfrm hp rfl).trans hb28
                  have m13 : Gm a 13 = zp_n u.2.1 a 13 := zp_nf hfrm hp rfl
                  have m23 : Gm a 23 = zp_n u.2.1 a 23 := zp_nf hfrm hp rfl
                  have m29 : Gm a 29 = zp_n u.2.1 a 29 := zp_nf hfrm hp rfl
                  have mv24 : zv Gm a 24 = zv (zp_n u.2.1) a 24 := funext fun j => by rw [zv_eq m24, zv_eq hb24, zp_nc hfrm hq24 rfl]
                  have mv25 : zv Gm a 25 = zv (zp_n u.2.1) a 25 := funext fun j => by rw [zv_eq m25, zv_eq hb25, zp_nc hfrm hq25 rfl]
                  have mv27 : zv Gm a 27 = zv (zp_n u.2.1) a 27 := funext fun j => by rw [zv_eq m27, zv_eq hb27, zp_nc hfrm hq27 rfl]
                  have mv28 : zv Gm a 28 = zv (zp_n u.2.1) a 28 := funext fun j => by rw [zv_eq m28, zv_eq hb28, zp_nc hfrm hq28 rfl]
                  refine zp_load (pc := 227) hx hb (zd_X12_behindSum (227, .aload_n 0, 1, 0, []) (List.mem_of_getElem? (i := 116) rfl)) rfl (j := 2) rfl ?_
                  refine zp_getf (n := (Gm a 19)) (pc := 228) hx hb hE hw (zd_X12_behindSum (228, .getfield 240, 3, 0, []) (List.mem_of_getElem? (i := 117) rfl)) (j := 37) rfl rfl rfl hp rfl ?_
                  refine zp_if (pc := 231) (tgt := 245) hx hb (zd_X12_behindSum (231, .ifCond .ne 14, 3, 0, []) (List.mem_of_getElem? (i := 118) rfl)) rfl (fun (hc86 : ¬ (Gm a 19) = 0) => ?_) (fun (hc86 : ¬ (¬ (Gm a 19) = 0)) => ?_)
                  · refine zp_const (pc := 245) hx hb (zd_X12_behindSum (245, .iconst 1, 1, 0, []) (List.mem_of_getElem? (i := 126) rfl)) rfl rfl ?_
                    refine zp_iret (pc := 246) (n := 1) hx hb hE hQ hU5 rfl (by decide) (zd_X12_behindSum (246, .ireturn, 1, 0, []) (List.mem_of_getElem? (i := 127) rfl)) (j := 0) rfl (zp_o0 (by omega) (by omega) (by omega) (by omega)) ?_
                    rw [hps]
                    refine ⟨rfl, by show 1 = 1 ∨ 1 = 2 ∨ 1 = 3 ∨ 1 = 4; decide, fun z => absurd z (by decide), fun z => absurd z (by decide), fun first hz => ⟨fun _ => ?_, fun z => absurd z (by decide), fun z => absurd z (by decide)⟩⟩
                    have hmb : Gm a 19 = 1 ∧ Gm a 14 = zp_n u.2.1 a 14 := by unfold zs_mu at hmm; omega
                    have hz : zs first 1 1 a (zp_n u.2.1) := hz
                    obtain ⟨-, nc2, pd2, e1, e2, e3⟩ := hz
                    obtain rfl : nc = nc2 := by omega
                    obtain rfl : pd = pd2 := by omega
                    show zs_go a first 0 1 (zp_n u.2.1) Gm
                    refine ⟨zs_mk (bad := Gm a 19) (fr := Gm a 14) (nc := nc) (pd := pd) ⟨?_, fun z => by omega⟩ htm (m23.trans e1) (m29.trans e2) rfl rfl (fun q => by rw [mv24]) (fun q => by rw [mv25]) (fun q => by rw [mv27]) (fun q => by rw [mv28]), fun q _ => ⟨by rw [mv24], by rw [mv25]⟩, by omega, fun z => by omega⟩
                    rw [hmb.2]
                    exact e3.1
                  · refine zp_load (pc := 234) hx hb (zd_X12_behindSum (234, .aload_n 0, 1, 0, []) (List.mem_of_getElem? (i := 119) rfl)) rfl (j := 2) rfl ?_
                    refine zp_const (pc := 235) hx hb (zd_X12_behindSum (235, .iconst 5, 1, 0, []) (List.mem_of_getElem? (i := 120) rfl)) rfl rfl ?_
                    have hmb : Gm a 19 = 0 ∧ zp_n u.2.1 a 19 = 0 ∧ 1 = 1 ∧ zp_n u.2.1 a 15 ≤ Gm a 14 := by unfold zs_mu at hmm; omega
                    have hlt : zp_n u.2.1 a 14 + 1 ≤ Gm a 14 := by have := t6 (by omega); omega
                    have hwkm : zi_wk f0 nc pd (Gm a 14) (zv Gm a 27) (zv Gm a 28) := by rw [mv27, mv28]; exact zi_wk_le hsp (by omega)
                    refine zp_call (pc := 236) (how := 0) (idx := 344) (mi := 231) (S := []) hx hb hE hw heff hrm (zX_se hW) rfl (j := 33) rfl rfl (by decide +kernel) (zd_X12_behindSum (236, .invokevirtual 344, 3, 0, []) (List.mem_of_getElem? (i := 121) rfl)) [(a : Int), 5] rfl ⟨zp_o2 hp, zp_o0 (by omega) (by omega) (by omega) (by omega), trivial⟩ (Nat.le_of_ble_eq_true rfl) ⟨f0, nc, pd, Gm a 14, m23.trans hnc, m29.trans hpd, hwkm, by omega, (show (1 : Int) ≤ 5 by decide)⟩ (fun al hal rns Ps Gs hexts hfrs hoks hcss hpsis => ?_)
                    obtain rfl := List.mem_singleton.mp hal
                    obtain ⟨rfl, hsets, htops⟩ := hpsis
                    have hsets : zs_set 5 a Gm Gs := hsets
                    have htops : ∀ pd' : Nat, Gs a 29 = pd' → pd' = 0 ∨ zbinds (zv Gm a 27 (pd' - 1)) < 5 := htops
                    obtain ⟨nc1, pd1, ncs, pds, c1, c2, c3, c4, c5, c6, c7, c8, c9, c10⟩ := hsets
                    obtain rfl : nc = nc1 := by omega
                    obtain rfl : pd = pd1 := by omega
                    have s24 : Gs a 24 = (b24 : Int) := (zp_nf hfrs hp rfl).trans m24
                    have s25 : Gs a 25 = (b25 : Int) := (zp_nf hfrs hp rfl).trans m25
                    have s27 : Gs a 27 = (b27 : Int) := (zp_nf hfrs hp rfl).trans m27
                    have s28 : Gs a 28 = (b28 : Int) := (zp_nf hfrs hp rfl).trans m28
                    have s13 : Gs a 13 = Gm a 13 := zp_nf hfrs hp rfl
                    have s14 : Gs a 14 = Gm a 14 := zp_nf hfrs hp rfl
                    have s15 : Gs a 15 = Gm a 15 := zp_nf hfrs hp rfl
                    have s16 : Gs a 16 = Gm a 16 := zp_nf hfrs hp rfl
                    have s19 : Gs a 19 = Gm a 19 := zp_nf hfrs hp rfl
                    refine zp_load (pc := 239) hx hb (zd_X12_behindSum (239, .aload_n 0, 1, 0, []) (List.mem_of_getElem? (i := 122) rfl)) rfl (j := 2) rfl ?_
                    refine zp_load (pc := 240) hx hb (zd_X12_behindSum (240, .iload_n 2, 1, 0, []) (List.mem_of_getElem? (i := 123) rfl)) rfl (j := 0) rfl ?_
                    refine zp_const (pc := 241) hx hb (zd_X12_behindSum (241, .iconst 0, 1, 0, []) (List.mem_of_getElem? (i := 124) rfl)) rfl rfl ?_
                    have h400 : Gs a 29 < 400 := by omega
                    refine zp_call (pc := 242) (how := 0) (idx := 307) (mi := 220) (S := []) hx hb hE hw heff hrm (zX_pu hW) rfl (j := 22) rfl rfl (by decide +kernel) (zd_X12_behindSum (242, .invokevirtual 307, 3, 0, []) (List.mem_of_getElem? (i := 125) rfl)) [(a : Int), 27, 0] rfl ⟨zp_o2 hp, zp_o0 (by omega) (by omega) (by omega) (by omega), zp_o0 (by decide) (by decide) (by decide) (by decide), trivial⟩ (Nat.le_of_ble_eq_true rfl) h400 (fun al hal rnp Pp Gp hextp hfrp hokp hcsp hpsip => ?_)
                    obtain rfl := List.mem_singleton.mp hal
                    obtain ⟨rfl, hp1, hp2, hp3⟩ := hpsip
                    have hp1 : Gp a 29 = Gs a 29 + 1 := hp1
                    have hp2 : ∀ j : Nat, zv Gp a 27 j = if j = (Gs a 29).toNat then 27 else zv Gs a 27 j := hp2
                    have hp3 : ∀ j : Nat, zv Gp a 28 j = if j = (Gs a 29).toNat then 0 else zv Gs a 28 j := hp3
                    have p24 : Gp a 24 = (b24 : Int) := (zp_nf hfrp hp rfl).trans s24
                    have p25 : Gp a 25 = (b25 : Int) := (zp_nf hfrp hp rfl).trans s25
                    have p27 : Gp a 27 = (b27 : Int) := (zp_nf hfrp hp rfl).trans s27
                    have p28 : Gp a 28 = (b28 : Int) := (zp_nf hfrp hp rfl).trans s28
                    refine zp_const (pc := 245) hx hb (zd_X12_behindSum (245, .iconst 1, 1, 0, []) (List.mem_of_getElem? (i := 126) rfl)) rfl rfl ?_
                    refine zp_iret (pc := 246) (n := 1) hx hb hE hQ hU5 rfl (by decide) (zd_X12_behindSum (246, .ireturn, 1, 0, []) (List.mem_of_getElem? (i := 127) rfl)) (j := 0) rfl (zp_o0 (by omega) (by omega) (by omega) (by omega)) ?_
                    rw [hps]
                    refine ⟨rfl, by show 1 = 1 ∨ 1 = 2 ∨ 1 = 3 ∨ 1 = 4; decide, fun z => absurd z (by decide), fun z => absurd z (by decide), fun first hz => ⟨fun _ => ?_, fun z => absurd z (by decide), fun z => absurd z (by decide)⟩⟩
                    have hz : zs first 1 1 a (zp_n u.2.1) := hz
                    obtain ⟨-, nc2, pd2, e1, e2, e3⟩ := hz
                    obtain rfl : nc = nc2 := by omega
                    obtain rfl : pd = pd2 := by omega
                    have hns : zi_ns pd (zv (zp_n u.2.1) a 27) := zi_ns_of (e3.2 hmb.2.1).1 hnb
                    have y1 : zs_sp first 1 0 (Gm a 19) (zp_n u.2.1 a 14) nc pd (zv (zp_n u.2.1) a 24) (zv (zp_n u.2.1) a 25) (zv (zp_n u.2.1) a 27) (zv (zp_n u.2.1) a 28) := ⟨e3.1, fun z => ⟨(e3.2 hmb.2.1).1, fun _ => hns, (e3.2 hmb.2.1).2.2⟩⟩
                    rw [← mv24, ← mv25, ← mv27, ← mv28] at y1
                    obtain ⟨y3, y4⟩ := zs_sp_settle y1 c10 c5
                    have l1 : ∀ i, i < pds → zv Gp a 27 i = zv Gm a 27 i := fun i hi => by rw [hp2, c4, Int.toNat_natCast, if_neg (by omega), c8]
                    have l2 : ∀ i, i < pds → zv Gp a 28 i = zv Gm a 28 i := fun i hi => by rw [hp3, c4, Int.toNat_natCast, if_neg (by omega), c9]
                    have l3 : zv Gp a 27 pds = 27 := by rw [hp2, c4, Int.toNat_natCast, if_pos rfl]
                    have y5 := zs_sp_push (pl' := zv Gp a 27) (pa' := zv Gp a 28) y3 hlt l1 l2 (by omega) (by omega) (Or.inr rfl)
                    have p13 : Gp a 13 = Gm a 13 := (zp_nf hfrp hp rfl).trans s13
                    have p14 : Gp a 14 = Gm a 14 := (zp_nf hfrp hp rfl).trans s14
                    have p15 : Gp a 15 = Gm a 15 := (zp_nf hfrp hp rfl).trans s15
                    have p16 : Gp a 16 = Gm a 16 := (zp_nf hfrp hp rfl).trans s16
                    have p19 : Gp a 19 = Gm a 19 := (zp_nf hfrp hp rfl).trans s19
                    have p23 : Gp a 23 = ncs := (zp_nf hfrp hp rfl).trans c3
                    have p29 : Gp a 29 = ((pds + 1 : Nat) : Int) := by rw [hp1, c4]; rfl
                    have pv24 : ∀ j, zv Gp a 24 j = zv Gs a 24 j := fun j => by rw [zv_eq p24, zv_eq s24, zp_nc hfrp hq24 rfl]
                    have pv25 : ∀ j, zv Gp a 25 j = zv Gs a 25 j := fun j => by rw [zv_eq p25, zv_eq s25, zp_nc hfrp hq25 rfl]
                    show zs_go a first 0 1 (zp_n u.2.1) Gp
                    refine ⟨zs_mk y5 (zs_tk_congr htm p13 p14 p15 p16) p23 p29 p19 p14 pv24 pv25 (fun _ => rfl) (fun _ => rfl), fun q hq => ⟨by rw [pv24, (y4 q hq).1, mv24], by rw [pv25, (y4 q hq).2, mv25]⟩, by omega, fun z => ⟨hmb.2.1, by omega⟩⟩
                · refine zp_load (pc := 210) hx hb (zd_X12_behindSum (210, .aload_n 0, 1, 0, []) (List.mem_of_getElem? (i := 108) rfl)) rfl (j := 2) rfl ?_
                  refine zp_const (pc := 211) hx hb (zd_X12_behindSum (211, .bipush 61, 2, 0, []) (List.mem_of_getElem? (i := 109) rfl)) rfl rfl ?_
                  refine zp_call (pc := 213) (how := 0) (idx := 313) (mi := 221) (S := [(2, (a : Int))]) hx hb hE hw heff hrm (zX_si hW) rfl (j := 23) rfl rfl (by decide +kernel) (zd_X12_behindSum (213, .invokevirtual 313, 3, 0, []) (List.mem_of_getElem? (i := 110) rfl)) [(a : Int), 61] rfl ⟨zp_o2 hp, zp_o0 (by decide) (by decide) (by decide) (by decide), trivial⟩ (Nat.le_of_ble_eq_true rfl) trivial (fun al hal rnz Pz Gz hextz hfrz hokz hcsz hpsiz => ?_)
                  obtain rfl := List.mem_singleton.mp hal
                  have hrz := zp_int (hokz _ rfl).1
                  obtain ⟨hPez, hGez, htz⟩ := hpsiz
                  rw [hPez, hGez]
                  have htz : rnz = 1 → zp_n u.2.1 a 16 = 3 := htz
                  refine zp_if (pc := 216) (tgt := 223) hx hb (zd_X12_behindSum (216, .ifCond .eq 7, 3, 0, []) (List.mem_of_getElem? (i := 111) rfl)) rfl (fun (hc87 : rnz = 0) => ?_) (fun (hc87 : ¬ (rnz = 0)) => ?_)
                  · refine zp_const (pc := 223) hx hb (zd_X12_behindSum (223, .iconst 0, 1, 0, []) (List.mem_of_getElem? (i := 114) rfl)) rfl rfl ?_
                    refine zp_call (pc := 224) (how := 0) (idx := 275) (mi := 217) (S := []) hx hb hE hw heff hrm (zX_mu hW) rfl (j := 19) rfl rfl (by decide +kernel) (zd_X12_behindSum (224, .invokevirtual 275, 3, 0, []) (List.mem_of_getElem? (i := 115) rfl)) [(a : Int), 0] rfl ⟨zp_o2 hp, zp_o0 (by omega) (by omega) (by omega) (by omega), trivial⟩ (Nat.le_of_ble_eq_true rfl) htk (fun al hal rnm Pm Gm hextm hfrm hokm hcsm hpsim => ?_)
                    obtain rfl := List.mem_singleton.mp hal
                    obtain ⟨rfl, htm, hmm⟩ := hpsim
                    have htm : zs_tk a Gm := htm
                    have hmm : zs_mu a 0 (zp_n u.2.1) Gm := hmm
                    have htm2 := htm
                    obtain ⟨m1, m2, m3, m4, m5, m6⟩ := htm2
                    have m24 : Gm a 24 = (b24 : Int) := (zp_nf hfrm hp rfl).trans hb24
                    have m25 : Gm a 25 = (b25 : Int) := (zp_nf hfrm hp rfl).trans hb25
                    have m27 : Gm a 27 = (b27 : Int) := (zp_nf hfrm hp rfl).trans hb27
                    have m28 : Gm a 28 = (b28 : Int) := (zp_nf hfrm hp rfl).trans hb28
                    have m13 : Gm a 13 = zp_n u.2.1 a 13 := zp_nf hfrm hp rfl
                    have m23 : Gm a 23 = zp_n u.2.1 a 23 := zp_nf hfrm hp rfl
                    have m29 : Gm a 29 = zp_n u.2.1 a 29 := zp_nf hfrm hp rfl
                    have mv24 : zv Gm a 24 = zv (zp_n u.2.1) a 24 := funext fun j => by rw [zv_eq m24, zv_eq hb24, zp_nc hfrm hq24 rfl]
                    have mv25 : zv Gm a 25 = zv (zp_n u.2.1) a 25 := funext fun j => by rw [zv_eq m25, zv_eq hb25, zp_nc hfrm hq25 rfl]
                    have mv27 : zv Gm a 27 = zv (zp_n u.2.1) a 27 := funext fun j => by rw [zv_eq m27, zv_eq hb27, zp_nc hfrm hq27 rfl]
                    have mv28 : zv Gm a 28 = zv (zp_n u.2.1) a 28 := funext fun j => by rw [zv_eq m28, zv_eq hb28, zp_nc hfrm hq28 rfl]
                    refine zp_load (pc := 227) hx hb (zd_X12_behindSum (227, .aload_n 0, 1, 0, []) (List.mem_of_getElem? (i := 116) rfl)) rfl (j := 2) rfl ?_
                    refine zp_getf (n := (Gm a 19)) (pc := 228) hx hb hE hw (zd_X12_behindSum (228, .getfield 240, 3, 0, []) (List.mem_of_getElem? (i := 117) rfl)) (j := 37) rfl rfl rfl hp rfl ?_
                    refine zp_if (pc := 231) (tgt := 245) hx hb (zd_X12_behindSum (231, .ifCond .ne 14, 3, 0, []) (List.mem_of_getElem? (i := 118) rfl)) rfl (fun (hc88 : ¬ (Gm a 19) = 0) => ?_) (fun (hc88 : ¬ (¬ (Gm a 19) = 0)) => ?_)
                    · refine zp_const (pc := 245) hx hb (zd_X12_behindSum (245, .iconst 1, 1, 0, []) (List.mem_of_getElem? (i := 126) rfl)) rfl rfl ?_
                      refine zp_iret (pc := 246) (n := 1) hx hb hE hQ hU5 rfl (by decide) (zd_X12_behindSum (246, .ireturn, 1, 0, []) (List.mem_of_getElem? (i := 127) rfl)) (j := 0) rfl (zp_o0 (by omega) (by omega) (by omega) (by omega)) ?_
                      rw [hps]
                      refine ⟨rfl, by show 1 = 1 ∨ 1 = 2 ∨ 1 = 3 ∨ 1 = 4; decide, fun z => absurd z (by decide), fun z => absurd z (by decide), fun first hz => ⟨fun _ => ?_, fun z => absurd z (by decide), fun z => absurd z (by decide)⟩⟩
                      have hmb : Gm a 19 = 1 ∧ Gm a 14 = zp_n u.2.1 a 14 := by unfold zs_mu at hmm; omega
                      have hz : zs first 1 1 a (zp_n u.2.1) := hz
                      obtain ⟨-, nc2, pd2, e1, e2, e3⟩ := hz
                      obtain rfl : nc = nc2 := by omega
                      obtain rfl : pd = pd2 := by omega
                      show zs_go a first 0 1 (zp_n u.2.1) Gm
                      refine ⟨zs_mk (bad := Gm a 19) (fr := Gm a 14) (nc := nc) (pd := pd) ⟨?_, fun z => by omega⟩ htm (m23.trans e1) (m29.trans e2) rfl rfl (fun q => by rw [mv24]) (fun q => by rw [mv25]) (fun q => by rw [mv27]) (fun q => by rw [mv28]), fun q _ => ⟨by rw [mv24], by rw [mv25]⟩, by omega, fun z => by omega⟩
                      rw [hmb.2]
                      exact e3.1
                    · exfalso
                      unfold zs_mu at hmm
                      omega
                  · refine zp_const (pc := 219) hx hb (zd_X12_behindSum (219, .iconst 1, 1, 0, []) (List.mem_of_getElem? (i := 112) rfl)) rfl rfl ?_
                    refine zp_goto (tgt := 224) (pc := 220) hx hb (zd_X12_behindSum (220, .goto 4, 3, 0, []) (List.mem_of_getElem? (i := 113) rfl)) rfl ?_
                    refine zp_call (pc := 224) (how := 0) (idx := 275) (mi := 217) (S := []) hx hb hE hw heff hrm (zX_mu hW) rfl (j := 19) rfl rfl (by decide +kernel) (zd_X12_behindSum (224, .invokevirtual 275, 3, 0, []) (List.mem_of_getElem? (i := 115) rfl)) [(a : Int), 1] rfl ⟨zp_o2 hp, zp_o0 (by omega) (by omega) (by omega) (by omega), trivial⟩ (Nat.le_of_ble_eq_true rfl) htk (fun al hal rnm Pm Gm hextm hfrm hokm hcsm hpsim => ?_)
                    obtain rfl := List.mem_singleton.mp hal
                    obtain ⟨rfl, htm, hmm⟩ := hpsim
                    have htm : zs_tk a Gm := htm
                    have hmm : zs_mu a 1 (zp_n u.2.1) Gm := hmm
                    have htm2 := htm
                    obtain ⟨m1, m2, m3, m4, m5, m6⟩ := htm2
                    have m24 : Gm a 24 = (b24 : Int) := (zp_nf hfrm hp rfl).trans hb24
                    have m25 : Gm a 25 = (b25 : Int) := (zp_nf hfrm hp rfl).trans hb25
                    have m27 : Gm a 27 = (b27 : Int) := (zp_nf hfrm hp rfl).trans hb27
                    have m28 : Gm a 28 = (b28 : Int) := (zp_nf hfrm hp rfl).trans hb28
                    have m13 : Gm a 13 = zp_n u.2.1 a 13 := zp_nf hfrm hp rfl
                    have m23 : Gm a 23 = zp_n u.2.1 a 23 := zp_nf hfrm hp rfl
                    have m29 : Gm a 29 = zp_n u.2.1 a 29 := zp_nf hfrm hp rfl
                    have mv24 : zv Gm a 24 = zv (zp_n u.2.1) a 24 := funext fun j => by rw [zv_eq m24, zv_eq hb24, zp_nc hfrm hq24 rfl]
                    have mv25 : zv Gm a 25 = zv (zp_n u.2.1) a 25 := funext fun j => by rw [zv_eq m25, zv_eq hb25, zp_nc hfrm hq25 rfl]
                    have mv27 : zv Gm a 27 = zv (zp_n u.2.1) a 27 := funext fun j => by rw [zv_eq m27, zv_eq hb27, zp_nc hfrm hq27 rfl]
                    have mv28 : zv Gm a 28 = zv (zp_n u.2.1) a 28 := funext fun j => by rw [zv_eq m28, zv_eq hb28, zp_nc hfrm hq28 rfl]
                    refine zp_load (pc := 227) hx hb (zd_X12_behindSum (227, .aload_n 0, 1, 0, []) (List.mem_of_getElem? (i := 116) rfl)) rfl (j := 2) rfl ?_
                    refine zp_getf (n := (Gm a 19)) (pc := 228) hx hb hE hw (zd_X12_behindSum (228, .getfield 240, 3, 0, []) (List.mem_of_getElem? (i := 117) rfl)) (j := 37) rfl rfl rfl hp rfl ?_
                    refine zp_if (pc := 231) (tgt := 245) hx hb (zd_X12_behindSum (231, .ifCond .ne 14, 3, 0, []) (List.mem_of_getElem? (i := 118) rfl)) rfl (fun (hc89 : ¬ (Gm a 19) = 0) => ?_) (fun (hc89 : ¬ (¬ (Gm a 19) = 0)) => ?_)
                    · refine zp_const (pc := 245) hx hb (zd_X12_behindSum (245, .iconst 1, 1, 0, []) (List.mem_of_getElem? (i := 126) rfl)) rfl rfl ?_
                      refine zp_iret (pc := 246) (n := 1) hx hb hE hQ hU5 rfl (by decide) (zd_X12_behindSum (246, .ireturn, 1, 0, []) (List.mem_of_getElem? (i := 127) rfl)) (j := 0) rfl (zp_o0 (by omega) (by omega) (by omega) (by omega)) ?_
                      rw [hps]
                      refine ⟨rfl, by show 1 = 1 ∨ 1 = 2 ∨ 1 = 3 ∨ 1 = 4; decide, fun z => absurd z (by decide), fun z => absurd z (by decide), fun first hz => ⟨fun _ => ?_, fun z => absurd z (by decide), fun z => absurd z (by decide)⟩⟩
                      have hmb : Gm a 19 = 1 ∧ Gm a 14 = zp_n u.2.1 a 14 := by unfold zs_mu at hmm; omega
                      have hz : zs first 1 1 a (zp_n u.2.1) := hz
                      obtain ⟨-, nc2, pd2, e1, e2, e3⟩ := hz
                      obtain rfl : nc = nc2 := by omega
                      obtain rfl : pd = pd2 := by omega
                      show zs_go a first 0 1 (zp_n u.2.1) Gm
                      refine ⟨zs_mk (bad := Gm a 19) (fr := Gm a 14) (nc := nc) (pd := pd) ⟨?_, fun z => by omega⟩ htm (m23.trans e1) (m29.trans e2) rfl rfl (fun q => by rw [mv24]) (fun q => by rw [mv25]) (fun q => by rw [mv27]) (fun q => by rw [mv28]), fun q _ => ⟨by rw [mv24], by rw [mv25]⟩, by omega, fun z => by omega⟩
                      rw [hmb.2]
                      exact e3.1
                    · refine zp_load (pc := 234) hx hb (zd_X12_behindSum (234, .aload_n 0, 1, 0, []) (List.mem_of_getElem? (i := 119) rfl)) rfl (j := 2) rfl ?_
                      refine zp_const (pc := 235) hx hb (zd_X12_behindSum (235, .iconst 5, 1, 0, []) (List.mem_of_getElem? (i := 120) rfl)) rfl rfl ?_
                      have hmb : Gm a 19 = 0 ∧ zp_n u.2.1 a 19 = 0 ∧ 1 = 1 ∧ zp_n u.2.1 a 15 ≤ Gm a 14 := by unfold zs_mu at hmm; omega
                      have hlt : zp_n u.2.1 a 14 + 1 ≤ Gm a 14 := by have := t6 (by omega); omega
                      have hwkm : zi_wk f0 nc pd (Gm a 14) (zv Gm a 27) (zv Gm a 28) := by rw [mv27, mv28]; exact zi_wk_le hsp (by omega)
                      refine zp_call (pc := 236) (how := 0) (idx := 344) (mi := 231) (S := []) hx hb hE hw heff hrm (zX_se hW) rfl (j := 33) rfl rfl (by decide +kernel) (zd_X12_behindSum (236, .invokevirtual 344, 3, 0, []) (List.mem_of_getElem? (i := 121) rfl)) [(a : Int), 5] rfl ⟨zp_o2 hp, zp_o0 (by omega) (by omega) (by omega) (by omega), trivial⟩ (Nat.le_of_ble_eq_true rfl) ⟨f0, nc, pd, Gm a 14, m23.trans hnc, m29.trans hpd, hwkm, by omega, (show (1 : Int) ≤ 5 by decide)⟩ (fun al hal rns Ps Gs hexts hfrs hoks hcss hpsis => ?_)
                      obtain rfl := List.mem_singleton.mp hal
                      obtain ⟨rfl, hsets, htops⟩ := hpsis
                      have hsets : zs_set 5 a Gm Gs := hsets
                      have htops : ∀ pd' : Nat, Gs a 29 = pd' → pd' = 0 ∨ zbinds (zv Gm a 27 (pd' - 1)) < 5 := htops
                      obtain ⟨nc1, pd1, ncs, pds, c1, c2, c3, c4, c5, c6, c7, c8, c9, c10⟩ := hsets
                      obtain rfl : nc = nc1 := by omega
                      obtain rfl : pd = pd1 := by omega
                      have s24 : Gs a 24 = (b24 : Int) := (zp_nf hfrs hp rfl).trans m24
                      have s25 : Gs a 25 = (b25 : Int) := (zp_nf hfrs hp rfl).trans m25
                      have s27 : Gs a 27 = (b27 : Int) := (zp_nf hfrs hp rfl).trans m27
                      have s28 : Gs a 28 = (b28 : Int) := (zp_nf hfrs hp rfl).trans m28
                      have s13 : Gs a 13 = Gm a 13 := zp_nf hfrs hp rfl
                      have s14 : Gs a 14 = Gm a 14 := zp_nf hfrs hp rfl
                      have s15 : Gs a 15 = Gm a 15 := zp_nf hfrs hp rfl
                      have s16 : Gs a 16 = Gm a 16 := zp_nf hfrs hp rfl
                      have s19 : Gs a 19 = Gm a 19 := zp_nf hfrs hp rfl
                      refine zp_load (pc := 239) hx hb (zd_X12_behindSum (239, .aload_n 0, 1, 0, []) (List.mem_of_getElem? (i := 122) rfl)) rfl (j := 2) rfl ?_
                      refine zp_load (pc := 240) hx hb (zd_X12_behindSum (240, .iload_n 2, 1, 0, []) (List.mem_of_getElem? (i := 123) rfl)) rfl (j := 0) rfl ?_
                      refine zp_const (pc := 241) hx hb (zd_X12_behindSum (241, .iconst 0, 1, 0, []) (List.mem_of_getElem? (i := 124) rfl)) rfl rfl ?_
                      have h400 : Gs a 29 < 400 := by omega
                      refine zp_call (pc := 242) (how := 0) (idx := 307) (mi := 220) (S := []) hx hb hE hw heff hrm (zX_pu hW) rfl (j := 22) rfl rfl (by decide +kernel) (zd_X12_behindSum (242, .invokevirtual 307, 3, 0, []) (List.mem_of_getElem? (i := 125) rfl)) [(a : Int), 27, 0] rfl ⟨zp_o2 hp, zp_o0 (by omega) (by omega) (by omega) (by omega), zp_o0 (by decide) (by decide) (by decide) (by decide), trivial⟩ (Nat.le_of_ble_eq_true rfl) h400 (fun al hal rnp Pp Gp hextp hfrp hokp hcsp hpsip => ?_)
                      obtain rfl := List.mem_singleton.mp hal
                      obtain ⟨rfl, hp1, hp2, hp3⟩ := hpsip
                      have hp1 : Gp a 29 = Gs a 29 + 1 := hp1
                      have hp2 : ∀ j : Nat, zv Gp a 27 j = if j = (Gs a 29).toNat then 27 else zv Gs a 27 j := hp2
                      have hp3 : ∀ j : Nat, zv Gp a 28 j = if j = (Gs a 29).toNat then 0 else zv Gs a 28 j := hp3
                      have p24 : Gp a 24 = (b24 : Int) := (zp_nf hfrp hp rfl).trans s24
                      have p25 : Gp a 25 = (b25 : Int) := (zp_nf hfrp hp rfl).trans s25
                      have p27 : Gp a 27 = (b27 : Int) := (zp_nf hfrp hp rfl).trans s27
                      have p28 : Gp a 28 = (b28 : Int) := (zp_nf hfrp hp rfl).trans s28
                      refine zp_const (pc := 245) hx hb (zd_X12_behindSum (245, .iconst 1, 1, 0, []) (List.mem_of_getElem? (i := 126) rfl)) rfl rfl ?_
                      refine zp_iret (pc := 246) (n := 1) hx hb hE hQ hU5 rfl (by decide) (zd_X12_behindSum (246, .ireturn, 1, 0, []) (List.mem_of_getElem? (i := 127) rfl)) (j := 0) rfl (zp_o0 (by omega) (by omega) (by omega) (by omega)) ?_
                      rw [hps]
                      refine ⟨rfl, by show 1 = 1 ∨ 1 = 2 ∨ 1 = 3 ∨ 1 = 4; decide, fun z => absurd z (by decide), fun z => absurd z (by decide), fun first hz => ⟨fun _ => ?_, fun z => absurd z (by decide), fun z => absurd z (by decide)⟩⟩
                      have hz : zs first 1 1 a (zp_n u.2.1) := hz
                      obtain ⟨-, nc2, pd2, e1, e2, e3⟩ := hz
                      obtain rfl : nc = nc2 := by omega
                      obtain rfl : pd = pd2 := by omega
                      have hns : zi_ns pd (zv (zp_n u.2.1) a 27) := zi_ns_of (e3.2 hmb.2.1).1 hnb
                      have y1 : zs_sp first 1 0 (Gm a 19) (zp_n u.2.1 a 14) nc pd (zv (zp_n u.2.1) a 24) (zv (zp_n u.2.1) a 25) (zv (zp_n u.2.1) a 27) (zv (zp_n u.2.1) a 28) := ⟨e3.1, fun z => ⟨(e3.2 hmb.2.1).1, fun _ => hns, (e3.2 hmb.2.1).2.2⟩⟩
                      rw [← mv24, ← mv25, ← mv27, ← mv28] at y1
                      obtain ⟨y3, y4⟩ := zs_sp_settle y1 c10 c5
                      have l1 : ∀ i, i < pds → zv Gp a 27 i = zv Gm a 27 i := fun i hi => by rw [hp2, c4, Int.toNat_natCast, if_neg (by omega), c8]
                      have l2 : ∀ i, i < pds → zv Gp a 28 i = zv Gm a 28 i := fun i hi => by rw [hp3, c4, Int.toNat_natCast, if_neg (by omega), c9]
                      have l3 : zv Gp a 27 pds = 27 := by rw [hp2, c4, Int.toNat_natCast, if_pos rfl]
                      have y5 := zs_sp_push (pl' := zv Gp a 27) (pa' := zv Gp a 28) y3 hlt l1 l2 (by omega) (by omega) (Or.inr rfl)
                      have p13 : Gp a 13 = Gm a 13 := (zp_nf hfrp hp rfl).trans s13
                      have p14 : Gp a 14 = Gm a 14 := (zp_nf hfrp hp rfl).trans s14
                      have p15 : Gp a 15 = Gm a 15 := (zp_nf hfrp hp rfl).trans s15
                      have p16 : Gp a 16 = Gm a 16 := (zp_nf hfrp hp rfl).trans s16
                      have p19 : Gp a 19 = Gm a 19 := (zp_nf hfrp hp rfl).trans s19
                      have p23 : Gp a 23 = ncs := (zp_nf hfrp hp rfl).trans c3
                      have p29 : Gp a 29 = ((pds + 1 : Nat) : Int) := by rw [hp1, c4]; rfl
                      have pv24 : ∀ j, zv Gp a 24 j = zv Gs a 24 j := fun j => by rw [zv_eq p24, zv_eq s24, zp_nc hfrp hq24 rfl]
                      have pv25 : ∀ j, zv Gp a 25 j = zv Gs a 25 j := fun j => by rw [zv_eq p25, zv_eq s25, zp_nc hfrp hq25 rfl]
                      show zs_go a first 0 1 (zp_n u.2.1) Gp
                      refine ⟨zs_mk y5 (zs_tk_congr htm p13 p14 p15 p16) p23 p29 p19 p14 pv24 pv25 (fun _ => rfl) (fun _ => rfl), fun q hq => ⟨by rw [pv24, (y4 q hq).1, mv24], by rw [pv25, (y4 q hq).2, mv25]⟩, by omega, fun z => ⟨hmb.2.1, by omega⟩⟩
              · refine zp_const (pc := 195) hx hb (zd_X12_behindSum (195, .bipush 26, 2, 0, []) (List.mem_of_getElem? (i := 100) rfl)) rfl rfl ?_
                refine zp_goto (tgt := 202) (pc := 197) hx hb (zd_X12_behindSum (197, .goto 5, 3, 0, []) (List.mem_of_getElem? (i := 101) rfl)) rfl ?_
                refine zp_store (L' := [(2, 0, 26), (3, 0, rni), (0, 2, (a : Int)), (1, 0, p1)]) (pc := 202) hx hb hnL (zd_X12_behindSum (202, .istore_n 2, 1, 0, []) (List.mem_of_getElem? (i := 103) rfl)) rfl rfl rfl ?_
                refine zp_load (pc := 203) hx hb (zd_X12_behindSum (203, .aload_n 0, 1, 0, []) (List.mem_of_getElem? (i := 104) rfl)) rfl (j := 2) rfl ?_
                refine zp_load (pc := 204) hx hb (zd_X12_behindSum (204, .iload_n 2, 1, 0, []) (List.mem_of_getElem? (i := 105) rfl)) rfl (j := 0) rfl ?_
                refine zp_const (pc := 205) hx hb (zd_X12_behindSum (205, .bipush 27, 2, 0, []) (List.mem_of_getElem? (i := 106) rfl)) rfl rfl ?_
                refine zp_icmp (pc := 207) (tgt := 219) hx hb (zd_X12_behindSum (207, .if_icmp .ne 12, 3, 0, []) (List.mem_of_getElem? (i := 107) rfl)) rfl (fun (hc90 : ¬ 26 = 27) => ?_) (fun (hc90 : ¬ (¬ 26 = 27)) => ?_)
                · refine zp_const (pc := 219) hx hb (zd_X12_behindSum (219, .iconst 1, 1, 0, []) (List.mem_of_getElem? (i := 112) rfl)) rfl rfl ?_
                  refine zp_goto (tgt := 224) (pc := 220) hx hb (zd_X12_behindSum (220, .goto 4, 3, 0, []) (List.mem_of_getElem? (i := 113) rfl)) rfl ?_
                  refine zp_call (pc := 224) (how := 0) (idx := 275) (mi := 217) (S := []) hx hb hE hw heff hrm (zX_mu hW) rfl (j := 19) rfl rfl (by decide +kernel) (zd_X12_behindSum (224, .invokevirtual 275, 3, 0, []) (List.mem_of_getElem? (i := 115) rfl)) [(a : Int), 1] rfl ⟨zp_o2 hp, zp_o0 (by omega) (by omega) (by omega) (by omega), trivial⟩ (Nat.le_of_ble_eq_true rfl) htk (fun al hal rnm Pm Gm hextm hfrm hokm hcsm hpsim => ?_)
                  obtain rfl := List.mem_singleton.mp hal
                  obtain ⟨rfl, htm, hmm⟩ := hpsim
                  have htm : zs_tk a Gm := htm
                  have hmm : zs_mu a 1 (zp_n u.2.1) Gm := hmm
                  have htm2 := htm
                  obtain ⟨m1, m2, m3, m4, m5, m6⟩ := htm2
                  have m24 : Gm a 24 = (b24 : Int) := (zp_nf hfrm hp rfl).trans hb24
                  have m25 : Gm a 25 = (b25 : Int) := (zp_nf hfrm hp rfl).trans hb25
                  have m27 : Gm a 27 = (b27 : Int) := (zp_nf hfrm hp rfl).trans hb27
                  have m28 : Gm a 28 = (b28 : Int) := (zp_nf hfrm hp rfl).trans hb28
                  have m13 : Gm a 13 = zp_n u.2.1 a 13 := zp_nf hfrm hp rfl
                  have m23 : Gm a 23 = zp_n u.2.1 a 23 := zp_nf hfrm hp rfl
                  have m29 : Gm a 29 = zp_n u.2.1 a 29 := zp_nf hfrm hp rfl
                  have mv24 : zv Gm a 24 = zv (zp_n u.2.1) a 24 := funext fun j => by rw [zv_eq m24, zv_eq hb24, zp_nc hfrm hq24 rfl]
                  have mv25 : zv Gm a 25 = zv (zp_n u.2.1) a 25 := funext fun j => by rw [zv_eq m25, zv_eq hb25, zp_nc hfrm hq25 rfl]
                  have mv27 : zv Gm a 27 = zv (zp_n u.2.1) a 27 := funext fun j => by rw [zv_eq m27, zv_eq hb27, zp_nc hfrm hq27 rfl]
                  have mv28 : zv Gm a 28 = zv (zp_n u.2.1) a 28 := funext fun j => by rw [zv_eq m28, zv_eq hb28, zp_nc hfrm hq28 rfl]
                  refine zp_load (pc := 227) hx hb (zd_X12_behindSum (227, .aload_n 0, 1, 0, []) (List.mem_of_getElem? (i := 116) rfl)) rfl (j := 2) rfl ?_
                  refine zp_getf (n := (Gm a 19)) (pc := 228) hx hb hE hw (zd_X12_behindSum (228, .getfield 240, 3, 0, []) (List.mem_of_getElem? (i := 117) rfl)) (j := 37) rfl rfl rfl hp rfl ?_
                  refine zp_if (pc := 231) (tgt := 245) hx hb (zd_X12_behindSum (231, .ifCond .ne 14, 3, 0, []) (List.mem_of_getElem? (i := 118) rfl)) rfl (fun (hc91 : ¬ (Gm a 19) = 0) => ?_) (fun (hc91 : ¬ (¬ (Gm a 19) = 0)) => ?_)
                  · refine zp_const (pc := 245) hx hb (zd_X12_behindSum (245, .iconst 1, 1, 0, []) (List.mem_of_getElem? (i := 126) rfl)) rfl rfl ?_
                    refine zp_iret (pc := 246) (n := 1) hx hb hE hQ hU5 rfl (by decide) (zd_X12_behindSum (246, .ireturn, 1, 0, []) (List.mem_of_getElem? (i := 127) rfl)) (j := 0) rfl (zp_o0 (by omega) (by omega) (by omega) (by omega)) ?_
                    rw [hps]
                    refine ⟨rfl, by show 1 = 1 ∨ 1 = 2 ∨ 1 = 3 ∨ 1 = 4; decide, fun z => absurd z (by decide), fun z => absurd z (by decide), fun first hz => ⟨fun _ => ?_, fun z => absurd z (by decide), fun z => absurd z (by decide)⟩⟩
                    have hmb : Gm a 19 = 1 ∧ Gm a 14 = zp_n u.2.1 a 14 := by unfold zs_mu at hmm; omega
                    have hz : zs first 1 1 a (zp_n u.2.1) := hz
                    obtain ⟨-, nc2, pd2, e1, e2, e3⟩ := hz
                    obtain rfl : nc = nc2 := by omega
                    obtain rfl : pd = pd2 := by omega
                    show zs_go a first 0 1 (zp_n u.2.1) Gm
                    refine ⟨zs_mk (bad := Gm a 19) (fr := Gm a 14) (nc := nc) (pd := pd) ⟨?_, fun z => by omega⟩ htm (m23.trans e1) (m29.trans e2) rfl rfl (fun q => by rw [mv24]) (fun q => by rw [mv25]) (fun q => by rw [mv27]) (fun q => by rw [mv28]), fun q _ => ⟨by rw [mv24], by rw [mv25]⟩, by omega, fun z => by omega⟩
                    rw [hmb.2]
                    exact e3.1
                  · refine zp_load (pc := 234) hx hb (zd_X12_behindSum (234, .aload_n 0, 1, 0, []) (List.mem_of_getElem? (i := 119) rfl)) rfl (j := 2) rfl ?_
                    refine zp_const (pc := 235) hx hb (zd_X12_behindSum (235, .iconst 5, 1, 0, []) (List.mem_of_getElem? (i := 120) rfl)) rfl rfl ?_
                    have hmb : Gm a 19 = 0 ∧ zp_n u.2.1 a 19 = 0 ∧ 1 = 1 ∧ zp_n u.2.1 a 15 ≤ Gm a 14 := by unfold zs_mu at hmm; omega
                    have hlt : zp_n u.2.1 a 14 + 1 ≤ Gm a 14 := by have := t6 (by omega); omega
                    have hwkm : zi_wk f0 nc pd (Gm a 14) (zv Gm a 27) (zv Gm a 28) := by rw [mv27, mv28]; exact zi_wk_le hsp (by omega)
                    refine zp_call (pc := 236) (how := 0) (idx := 344) (mi := 231) (S := []) hx hb hE hw heff hrm (zX_se hW) rfl (j := 33) rfl rfl (by decide +kernel) (zd_X12_behindSum (236, .invokevirtual 344, 3, 0, []) (List.mem_of_getElem? (i := 121) rfl)) [(a : Int), 5] rfl ⟨zp_o2 hp, zp_o0 (by omega) (by omega) (by omega) (by omega), trivial⟩ (Nat.le_of_ble_eq_true rfl) ⟨f0, nc, pd, Gm a 14, m23.trans hnc, m29.trans hpd, hwkm, by omega, (show (1 : Int) ≤ 5 by decide)⟩ (fun al hal rns Ps Gs hexts hfrs hoks hcss hpsis => ?_)
                    obtain rfl := List.mem_singleton.mp hal
                    obtain ⟨rfl, hsets, htops⟩ := hpsis
                    have hsets : zs_set 5 a Gm Gs := hsets
                    have htops : ∀ pd' : Nat, Gs a 29 = pd' → pd' = 0 ∨ zbinds (zv Gm a 27 (pd' - 1)) < 5 := htops
                    obtain ⟨nc1, pd1, ncs, pds, c1, c2, c3, c4, c5, c6, c7, c8, c9, c10⟩ := hsets
                    obtain rfl : nc = nc1 := by omega
                    obtain rfl : pd = pd1 := by omega
                    have s24 : Gs a 24 = (b24 : Int) := (zp_nf hfrs hp rfl).trans m24
                    have s25 : Gs a 25 = (b25 : Int) := (zp_nf hfrs hp rfl).trans m25
                    have s27 : Gs a 27 = (b27 : Int) := (zp_nf hfrs hp rfl).trans m27
                    have s28 : Gs a 28 = (b28 : Int) := (zp_nf hfrs hp rfl).trans m28
                    have s13 : Gs a 13 = Gm a 13 := zp_nf hfrs hp rfl
                    have s14 : Gs a 14 = Gm a 14 := zp_nf hfrs hp rfl
                    have s15 : Gs a 15 = Gm a 15 := zp_nf hfrs hp rfl
                    have s16 : Gs a 16 = Gm a 16 := zp_nf hfrs hp rfl
                    have s19 : Gs a 19 = Gm a 19 := zp_nf hfrs hp rfl
                    refine zp_load (pc := 239) hx hb (zd_X12_behindSum (239, .aload_n 0, 1, 0, []) (List.mem_of_getElem? (i := 122) rfl)) rfl (j := 2) rfl ?_
                    refine zp_load (pc := 240) hx hb (zd_X12_behindSum (240, .iload_n 2, 1, 0, []) (List.mem_of_getElem? (i := 123) rfl)) rfl (j := 0) rfl ?_
                    refine zp_const (pc := 241) hx hb (zd_X12_behindSum (241, .iconst 0, 1, 0, []) (List.mem_of_getElem? (i := 124) rfl)) rfl rfl ?_
                    have h400 : Gs a 29 < 400 := by omega
                    refine zp_call (pc := 242) (how := 0) (idx := 307) (mi := 220) (S := []) hx hb hE hw heff hrm (zX_pu hW) rfl (j := 22) rfl rfl (by decide +kernel) (zd_X12_behindSum (242, .invokevirtual 307, 3, 0, []) (List.mem_of_getElem? (i := 125) rfl)) [(a : Int), 26, 0] rfl ⟨zp_o2 hp, zp_o0 (by omega) (by omega) (by omega) (by omega), zp_o0 (by decide) (by decide) (by decide) (by decide), trivial⟩ (Nat.le_of_ble_eq_true rfl) h400 (fun al hal rnp Pp Gp hextp hfrp hokp hcsp hpsip => ?_)
                    obtain rfl := List.mem_singleton.mp hal
                    obtain ⟨rfl, hp1, hp2, hp3⟩ := hpsip
                    have hp1 : Gp a 29 = Gs a 29 + 1 := hp1
                    have hp2 : ∀ j : Nat, zv Gp a 27 j = if j = (Gs a 29).toNat then 26 else zv Gs a 27 j := hp2
                    have hp3 : ∀ j : Nat, zv Gp a 28 j = if j = (Gs a 29).toNat then 0 else zv Gs a 28 j := hp3
                    have p24 : Gp a 24 = (b24 : Int) := (zp_nf hfrp hp rfl).trans s24
                    have p25 : Gp a 25 = (b25 : Int) := (zp_nf hfrp hp rfl).trans s25
                    have p27 : Gp a 27 = (b27 : Int) := (zp_nf hfrp hp rfl).trans s27
                    have p28 : Gp a 28 = (b28 : Int) := (zp_nf hfrp hp rfl).trans s28
                    refine zp_const (pc := 245) hx hb (zd_X12_behindSum (245, .iconst 1, 1, 0, []) (List.mem_of_getElem? (i := 126) rfl)) rfl rfl ?_
                    refine zp_iret (pc := 246) (n := 1) hx hb hE hQ hU5 rfl (by decide) (zd_X12_behindSum (246, .ireturn, 1, 0, []) (List.mem_of_getElem? (i := 127) rfl)) (j := 0) rfl (zp_o0 (by omega) (by omega) (by omega) (by omega)) ?_
                    rw [hps]
                    refine ⟨rfl, by show 1 = 1 ∨ 1 = 2 ∨ 1 = 3 ∨ 1 = 4; decide, fun z => absurd z (by decide), fun z => absurd z (by decide), fun first hz => ⟨fun _ => ?_, fun z => absurd z (by decide), fun z => absurd z (by decide)⟩⟩
                    have hz : zs first 1 1 a (zp_n u.2.1) := hz
                    obtain ⟨-, nc2, pd2, e1, e2, e3⟩ := hz
                    obtain rfl : nc = nc2 := by omega
                    obtain rfl : pd = pd2 := by omega
                    have hns : zi_ns pd (zv (zp_n u.2.1) a 27) := zi_ns_of (e3.2 hmb.2.1).1 hnb
                    have y1 : zs_sp first 1 0 (Gm a 19) (zp_n u.2.1 a 14) nc pd (zv (zp_n u.2.1) a 24) (zv (zp_n u.2.1) a 25) (zv (zp_n u.2.1) a 27) (zv (zp_n u.2.1) a 28) := ⟨e3.1, fun z => ⟨(e3.2 hmb.2.1).1, fun _ => hns, (e3.2 hmb.2.1).2.2⟩⟩
                    rw [← mv24, ← mv25, ← mv27, ← mv28] at y1
                    obtain ⟨y3, y4⟩ := zs_sp_settle y1 c10 c5
                    have l1 : ∀ i, i < pds → zv Gp a 27 i = zv Gm a 27 i := fun i hi => by rw [hp2, c4, Int.toNat_natCast, if_neg (by omega), c8]
                    have l2 : ∀ i, i < pds → zv Gp a 28 i = zv Gm a 28 i := fun i hi => by rw [hp3, c4, Int.toNat_natCast, if_neg (by omega), c9]
                    have l3 : zv Gp a 27 pds = 26 := by rw [hp2, c4, Int.toNat_natCast, if_pos rfl]
                    have y5 := zs_sp_push (pl' := zv Gp a 27) (pa' := zv Gp a 28) y3 hlt l1 l2 (by omega) (by omega) (Or.inr rfl)
                    have p13 : Gp a 13 = Gm a 13 := (zp_nf hfrp hp rfl).trans s13
                    have p14 : Gp a 14 = Gm a 14 := (zp_nf hfrp hp rfl).trans s14
                    have p15 : Gp a 15 = Gm a 15 := (zp_nf hfrp hp rfl).trans s15
                    have p16 : Gp a 16 = Gm a 16 := (zp_nf hfrp hp rfl).trans s16
                    have p19 : Gp a 19 = Gm a 19 := (zp_nf hfrp hp rfl).trans s19
                    have p23 : Gp a 23 = ncs := (zp_nf hfrp hp rfl).trans c3
                    have p29 : Gp a 29 = ((pds + 1 : Nat) : Int) := by rw [hp1, c4]; rfl
                    have pv24 : ∀ j, zv Gp a 24 j = zv Gs a 24 j := fun j => by rw [zv_eq p24, zv_eq s24, zp_nc hfrp hq24 rfl]
                    have pv25 : ∀ j, zv Gp a 25 j = zv Gs a 25 j := fun j => by rw [zv_eq p25, zv_eq s25, zp_nc hfrp hq25 rfl]
                    show zs_go a first 0 1 (zp_n u.2.1) Gp
                    refine ⟨zs_mk y5 (zs_tk_congr htm p13 p14 p15 p16) p23 p29 p19 p14 pv24 pv25 (fun _ => rfl) (fun _ => rfl), fun q hq => ⟨by rw [pv24, (y4 q hq).1, mv24], by rw [pv25, (y4 q hq).2, mv25]⟩, by omega, fun z => ⟨hmb.2.1, by omega⟩⟩
                · refine zp_load (pc := 210) hx hb (zd_X12_behindSum (210, .aload_n 0, 1, 0, []) (List.mem_of_getElem? (i := 108) rfl)) rfl (j := 2) rfl ?_
                  refine zp_const (pc := 211) hx hb (zd_X12_behindSum (211, .bipush 61, 2, 0, []) (List.mem_of_getElem? (i := 109) rfl)) rfl rfl ?_
                  refine zp_call (pc := 213) (how := 0) (idx := 313) (mi := 221) (S := [(2, (a : Int))]) hx hb hE hw heff hrm (zX_si hW) rfl (j := 23) rfl rfl (by decide +kernel) (zd_X12_behindSum (213, .invokevirtual 313, 3, 0, []) (List.mem_of_getElem? (i := 110) rfl)) [(a : Int), 61] rfl ⟨zp_o2 hp, zp_o0 (by decide) (by decide) (by decide) (by decide), trivial⟩ (Nat.le_of_ble_eq_true rfl) trivial (fun al hal rnz Pz Gz hextz hfrz hokz hcsz hpsiz => ?_)
                  obtain rfl := List.mem_singleton.mp hal
                  have hrz := zp_int (hokz _ rfl).1
                  obtain ⟨hPez, hGez, htz⟩ := hpsiz
                  rw [hPez, hGez]
                  have htz : rnz = 1 → zp_n u.2.1 a 16 = 3 := htz
                  refine zp_if (pc := 216) (tgt := 223) hx hb (zd_X12_behindSum (216, .ifCond .eq 7, 3, 0, []) (List.mem_of_getElem? (i := 111) rfl)) rfl (fun (hc92 : rnz = 0) => ?_) (fun (hc92 : ¬ (rnz = 0)) => ?_)
                  · refine zp_const (pc := 223) hx hb (zd_X12_behindSum (223, .iconst 0, 1, 0, []) (List.mem_of_getElem? (i := 114) rfl)) rfl rfl ?_
                    refine zp_call (pc := 224) (how := 0) (idx := 275) (mi := 217) (S := []) hx hb hE hw heff hrm (zX_mu hW) rfl (j := 19) rfl rfl (by decide +kernel) (zd_X12_behindSum (224, .invokevirtual 275, 3, 0, []) (List.mem_of_getElem? (i := 115) rfl)) [(a : Int), 0] rfl ⟨zp_o2 hp, zp_o0 (by omega) (by omega) (by omega) (by omega), trivial⟩ (Nat.le_of_ble_eq_true rfl) htk (fun al hal rnm Pm Gm hextm hfrm hokm hcsm hpsim => ?_)
                    obtain rfl := List.mem_singleton.mp hal
                    obtain ⟨rfl, htm, hmm⟩ := hpsim
                    have htm : zs_tk a Gm := htm
                    have hmm : zs_mu a 0 (zp_n u.2.1) Gm := hmm
                    have htm2 := htm
                    obtain ⟨m1, m2, m3, m4, m5, m6⟩ := htm2
                    have m24 : Gm a 24 = (b24 : Int) := (zp_nf hfrm hp rfl).trans hb24
                    have m25 : Gm a 25 = (b25 : Int) := (zp_nf hfrm hp rfl).trans hb25
                    have m27 : Gm a 27 = (b27 : Int) := (zp_nf hfrm hp rfl).trans hb27
                    have m28 : Gm a 28 = (b28 : Int) := (zp_nf hfrm hp rfl).trans hb28
                    have m13 : Gm a 13 = zp_n u.2.1 a 13 := zp_nf hfrm hp rfl
                    have m23 : Gm a 23 = zp_n u.2.1 a 23 := zp_nf hfrm hp rfl
                    have m29 : Gm a 29 = zp_n u.2.1 a 29 := zp_nf hfrm hp rfl
                    have mv24 : zv Gm a 24 = zv (zp_n u.2.1) a 24 := funext fun j => by rw [zv_eq m24, zv_eq hb24, zp_nc hfrm hq24 rfl]
                    have mv25 : zv Gm a 25 = zv (zp_n u.2.1) a 25 := funext fun j => by rw [zv_eq m25, zv_eq hb25, zp_nc hfrm hq25 rfl]
                    have mv27 : zv Gm a 27 = zv (zp_n u.2.1) a 27 := funext fun j => by rw [zv_eq m27, zv_eq hb27, zp_nc hfrm hq27 rfl]
                    have mv28 : zv Gm a 28 = zv (zp_n u.2.1) a 28 := funext fun j => by rw [zv_eq m28, zv_eq hb28, zp_nc hfrm hq28 rfl]
                    refine zp_load (pc := 227) hx hb (zd_X12_behindSum (227, .aload_n 0, 1, 0, []) (List.mem_of_getElem? (i := 116) rfl)) rfl (j := 2) rfl ?_
                    refine zp_getf (n := (Gm a 19)) (pc := 228) hx hb hE hw (zd_X12_behindSum (228, .getfield 240, 3, 0, []) (List.mem_of_getElem? (i := 117) rfl)) (j := 37) rfl rfl rfl hp rfl ?_
                    refine zp_if (pc := 231) (tgt := 245) hx hb (zd_X12_behindSum (231, .ifCond .ne 14, 3, 0, []) (List.mem_of_getElem? (i := 118) rfl)) rfl (fun (hc93 : ¬ (Gm a 19) = 0) => ?_) (fun (hc93 : ¬ (¬ (Gm a 19) = 0)) => ?_)
                    · refine zp_const (pc := 245) hx hb (zd_X12_behindSum (245, .iconst 1, 1, 0, []) (List.mem_of_getElem? (i := 126) rfl)) rfl rfl ?_
                      refine zp_iret (pc := 246) (n := 1) hx hb hE hQ hU5 rfl (by decide) (zd_X12_behindSum (246, .ireturn, 1, 0, []) (List.mem_of_getElem? (i := 127) rfl)) (j := 0) rfl (zp_o0 (by omega) (by omega) (by omega) (by omega)) ?_
                      rw [hps]
                      refine ⟨rfl, by show 1 = 1 ∨ 1 = 2 ∨ 1 = 3 ∨ 1 = 4; decide, fun z => absurd z (by decide), fun z => absurd z (by decide), fun first hz => ⟨fun _ => ?_, fun z => absurd z (by decide), fun z => absurd z (by decide)⟩⟩
                      have hmb : Gm a 19 = 1 ∧ Gm a 14 = zp_n u.2.1 a 14 := by unfold zs_mu at hmm; omega
                      have hz : zs first 1 1 a (zp_n u.2.1) := hz
                      obtain ⟨-, nc2, pd2, e1, e2, e3⟩ := hz
                      obtain rfl : nc = nc2 := by omega
                      obtain rfl : pd = pd2 := by omega
                      show zs_go a first 0 1 (zp_n u.2.1) Gm
                      refine ⟨zs_mk (bad := Gm a 19) (fr := Gm a 14) (nc := nc) (pd := pd) ⟨?_, fun z => by omega⟩ htm (m23.trans e1) (m29.trans e2) rfl rfl (fun q => by rw [mv24]) (fun q => by rw [mv25]) (fun q => by rw [mv27]) (fun q => by rw [mv28]), fun q _ => ⟨by rw [mv24], by rw [mv25]⟩, by omega, fun z => by omega⟩
                      rw [hmb.2]
                      exact e3.1
                    · exfalso
                      unfold zs_mu at hmm
                      omega
                  · refine zp_const (pc := 219) hx hb (zd_X12_behindSum (219, .iconst 1, 1, 0, []) (List.mem_of_getElem? (i := 112) rfl)) rfl rfl ?_
                    refine zp_goto (tgt := 224) (pc := 220) hx hb (zd_X12_behindSum (220, .goto 4, 3, 0, []) (List.mem_of_getElem? (i := 113) rfl)) rfl ?_
                    refine zp_call (pc := 224) (how := 0) (idx := 275) (mi := 217) (S := []) hx hb hE hw heff hrm (zX_mu hW) rfl (j := 19) rfl rfl (by decide +kernel) (zd_X12_behindSum (224, .invokevirtual 275, 3, 0, []) (List.mem_of_getElem? (i := 115) rfl)) [(a : Int), 1] rfl ⟨zp_o2 hp, zp_o0 (by omega) (by omega) (by omega) (by omega), trivial⟩ (Nat.le_of_ble_eq_true rfl) htk (fun al hal rnm Pm Gm hextm hfrm hokm hcsm hpsim => ?_)
                    obtain rfl := List.mem_singleton.mp hal
                    obtain ⟨rfl, htm, hmm⟩ := hpsim
                    have htm : zs_tk a Gm := htm
                    have hmm : zs_mu a 1 (zp_n u.2.1) Gm := hmm
                    have htm2 := htm
                    obtain ⟨m1, m2, m3, m4, m5, m6⟩ := htm2
                    have m24 : Gm a 24 = (b24 : Int) := (zp_nf hfrm hp rfl).trans hb24
                    have m25 : Gm a 25 = (b25 : Int) := (zp_nf hfrm hp rfl).trans hb25
                    have m27 : Gm a 27 = (b27 : Int) := (zp_nf hfrm hp rfl).trans hb27
                    have m28 : Gm a 28 = (b28 : Int) := (zp_nf hfrm hp rfl).trans hb28
                    have m13 : Gm a 13 = zp_n u.2.1 a 13 := zp_nf hfrm hp rfl
                    have m23 : Gm a 23 = zp_n u.2.1 a 23 := zp_nf hfrm hp rfl
                    have m29 : Gm a 29 = zp_n u.2.1 a 29 := zp_nf hfrm hp rfl
                    have mv24 : zv Gm a 24 = zv (zp_n u.2.1) a 24 := funext fun j => by rw [zv_eq m24, zv_eq hb24, zp_nc hfrm hq24 rfl]
                    have mv25 : zv Gm a 25 = zv (zp_n u.2.1) a 25 := funext fun j => by rw [zv_eq m25, zv_eq hb25, zp_nc hfrm hq25 rfl]
                    have mv27 : zv Gm a 27 = zv (zp_n u.2.1) a 27 := funext fun j => by rw [zv_eq m27, zv_eq hb27, zp_nc hfrm hq27 rfl]
                    have mv28 : zv Gm a 28 = zv (zp_n u.2.1) a 28 := funext fun j => by rw [zv_eq m28, zv_eq hb28, zp_nc hfrm hq28 rfl]
                    refine zp_load (pc := 227) hx hb (zd_X12_behindSum (227, .aload_n 0, 1, 0, []) (List.mem_of_getElem? (i := 116) rfl)) rfl (j := 2) rfl ?_
                    refine zp_getf (n := (Gm a 19)) (pc := 228) hx hb hE hw (zd_X12_behindSum (228, .getfield 240, 3, 0, []) (List.mem_of_getElem? (i := 117) rfl)) (j := 37) rfl rfl rfl hp rfl ?_
                    refine zp_if (pc := 231) (tgt := 245) hx hb (zd_X12_behindSum (231, .ifCond .ne 14, 3, 0, []) (List.mem_of_getElem? (i := 118) rfl)) rfl (fun (hc94 : ¬ (Gm a 19) = 0) => ?_) (fun (hc94 : ¬ (¬ (Gm a 19) = 0)) => ?_)
                    · refine zp_const (pc := 245) hx hb (zd_X12_behindSum (245, .iconst 1, 1, 0, []) (List.mem_of_getElem? (i := 126) rfl)) rfl rfl ?_
                      refine zp_iret (pc := 246) (n := 1) hx hb hE hQ hU5 rfl (by decide) (zd_X12_behindSum (246, .ireturn, 1, 0, []) (List.mem_of_getElem? (i := 127) rfl)) (j := 0) rfl (zp_o0 (by omega) (by omega) (by omega) (by omega)) ?_
                      rw [hps]
                      refine ⟨rfl, by show 1 = 1 ∨ 1 = 2 ∨ 1 = 3 ∨ 1 = 4; decide, fun z => absurd z (by decide), fun z => absurd z (by decide), fun first hz => ⟨fun _ => ?_, fun z => absurd z (by decide), fun z => absurd z (by decide)⟩⟩
                      have hmb : Gm a 19 = 1 ∧ Gm a 14 = zp_n u.2.1 a 14 := by unfold zs_mu at hmm; omega
                      have hz : zs first 1 1 a (zp_n u.2.1) := hz
                      obtain ⟨-, nc2, pd2, e1, e2, e3⟩ := hz
                      obtain rfl : nc = nc2 := by omega
                      obtain rfl : pd = pd2 := by omega
                      show zs_go a first 0 1 (zp_n u.2.1) Gm
                      refine ⟨zs_mk (bad := Gm a 19) (fr := Gm a 14) (nc := nc) (pd := pd) ⟨?_, fun z => by omega⟩ htm (m23.trans e1) (m29.trans e2) rfl rfl (fun q => by rw [mv24]) (fun q => by rw [mv25]) (fun q => by rw [mv27]) (fun q => by rw [mv28]), fun q _ => ⟨by rw [mv24], by rw [mv25]⟩, by omega, fun z => by omega⟩
                      rw [hmb.2]
                      exact e3.1
                    · refine zp_load (pc := 234) hx hb (zd_X12_behindSum (234, .aload_n 0, 1, 0, []) (List.mem_of_getElem? (i := 119) rfl)) rfl (j := 2) rfl ?_
                      refine zp_const (pc := 235) hx hb (zd_X12_behindSum (235, .iconst 5, 1, 0, []) (List.mem_of_getElem? (i := 120) rfl)) rfl rfl ?_
                      have hmb : Gm a 19 = 0 ∧ zp_n u.2.1 a 19 = 0 ∧ 1 = 1 ∧ zp_n u.2.1 a 15 ≤ Gm a 14 := by unfold zs_mu at hmm; omega
                      have hlt : zp_n u.2.1 a 14 + 1 ≤ Gm a 14 := by have := t6 (by omega); omega
                      have hwkm : zi_wk f0 nc pd (Gm a 14) (zv Gm a 27) (zv Gm a 28) := by rw [mv27, mv28]; exact zi_wk_le hsp (by omega)
                      refine zp_call (pc := 236) (how := 0) (idx := 344) (mi := 231) (S := []) hx hb hE hw heff hrm (zX_se hW) rfl (j := 33) rfl rfl (by decide +kernel) (zd_X12_behindSum (236, .invokevirtual 344, 3, 0, []) (List.mem_of_getElem? (i := 121) rfl)) [(a : Int), 5] rfl ⟨zp_o2 hp, zp_o0 (by omega) (by omega) (by omega) (by omega), trivial⟩ (Nat.le_of_ble_eq_true rfl) ⟨f0, nc, pd, Gm a 14, m23.trans hnc, m29.trans hpd, hwkm, by omega, (show (1 : Int) ≤ 5 by decide)⟩ (fun al hal rns Ps Gs hexts hfrs hoks hcss hpsis => ?_)
                      obtain rfl := List.mem_singleton.mp hal
                      obtain ⟨rfl, hsets, htops⟩ := hpsis
                      have hsets : zs_set 5 a Gm Gs := hsets
                      have htops : ∀ pd' : Nat, Gs a 29 = pd' → pd' = 0 ∨ zbinds (zv Gm a 27 (pd' - 1)) < 5 := htops
                      obtain ⟨nc1, pd1, ncs, pds, c1, c2, c3, c4, c5, c6, c7, c8, c9, c10⟩ := hsets
                      obtain rfl : nc = nc1 := by omega
                      obtain rfl : pd = pd1 := by omega
                      have s24 : Gs a 24 = (b24 : Int) := (zp_nf hfrs hp rfl).trans m24
                      have s25 : Gs a 25 = (b25 : Int) := (zp_nf hfrs hp rfl).trans m25
                      have s27 : Gs a 27 = (b27 : Int) := (zp_nf hfrs hp rfl).trans m27
                      have s28 : Gs a 28 = (b28 : Int) := (zp_nf hfrs hp rfl).trans m28
                      have s13 : Gs a 13 = Gm a 13 := zp_nf hfrs hp rfl
                      have s14 : Gs a 14 = Gm a 14 := zp_nf hfrs hp rfl
                      have s15 : Gs a 15 = Gm a 15 := zp_nf hfrs hp rfl
                      have s16 : Gs a 16 = Gm a 16 := zp_nf hfrs hp rfl
                      have s19 : Gs a 19 = Gm a 19 := zp_nf hfrs hp rfl
                      refine zp_load (pc := 239) hx hb (zd_X12_behindSum (239, .aload_n 0, 1, 0, []) (List.mem_of_getElem? (i := 122) rfl)) rfl (j := 2) rfl ?_
                      refine zp_load (pc := 240) hx hb (zd_X12_behindSum (240, .iload_n 2, 1, 0, []) (List.mem_of_getElem? (i := 123) rfl)) rfl (j := 0) rfl ?_
                      refine zp_const (pc := 241) hx hb (zd_X12_behindSum (241, .iconst 0, 1, 0, []) (List.mem_of_getElem? (i := 124) rfl)) rfl rfl ?_
                      have h400 : Gs a 29 < 400 := by omega
                      refine zp_call (pc := 242) (how := 0) (idx := 307) (mi := 220) (S := []) hx hb hE hw heff hrm (zX_pu hW) rfl (j := 22) rfl rfl (by decide +kernel) (zd_X12_behindSum (242, .invokevirtual 307, 3, 0, []) (List.mem_of_getElem? (i := 125) rfl)) [(a : Int), 26, 0] rfl ⟨zp_o2 hp, zp_o0 (by omega) (by omega) (by omega) (by omega), zp_o0 (by decide) (by decide) (by decide) (by decide), trivial⟩ (Nat.le_of_ble_eq_true rfl) h400 (fun al hal rnp Pp Gp hextp hfrp hokp hcsp hpsip => ?_)
                      obtain rfl := List.mem_singleton.mp hal
                      obtain ⟨rfl, hp1, hp2, hp3⟩ := hpsip
                      have hp1 : Gp a 29 = Gs a 29 + 1 := hp1
                      have hp2 : ∀ j : Nat, zv Gp a 27 j = if j = (Gs a 29).toNat then 26 else zv Gs a 27 j := hp2
                      have hp3 : ∀ j : Nat, zv Gp a 28 j = if j = (Gs a 29).toNat then 0 else zv Gs a 28 j := hp3
                      have p24 : Gp a 24 = (b24 : Int) := (zp_nf hfrp hp rfl).trans s24
                      have p25 : Gp a 25 = (b25 : Int) := (zp_nf hfrp hp rfl).trans s25
                      have p27 : Gp a 27 = (b27 : Int) := (zp_nf hfrp hp rfl).trans s27
                      have p28 : Gp a 28 = (b28 : Int) := (zp_nf hfrp hp rfl).trans s28
                      refine zp_const (pc := 245) hx hb (zd_X12_behindSum (245, .iconst 1, 1, 0, []) (List.mem_of_getElem? (i := 126) rfl)) rfl rfl ?_
                      refine zp_iret (pc := 246) (n := 1) hx hb hE hQ hU5 rfl (by decide) (zd_X12_behindSum (246, .ireturn, 1, 0, []) (List.mem_of_getElem? (i := 127) rfl)) (j := 0) rfl (zp_o0 (by omega) (by omega) (by omega) (by omega)) ?_
                      rw [hps]
                      refine ⟨rfl, by show 1 = 1 ∨ 1 = 2 ∨ 1 = 3 ∨ 1 = 4; decide, fun z => absurd z (by decide), fun z => absurd z (by decide), fun first hz => ⟨fun _ => ?_, fun z => absurd z (by decide), fun z => absurd z (by decide)⟩⟩
                      have hz : zs first 1 1 a (zp_n u.2.1) := hz
                      obtain ⟨-, nc2, pd2, e1, e2, e3⟩ := hz
                      obtain rfl : nc = nc2 := by omega
                      obtain rfl : pd = pd2 := by omega
                      have hns : zi_ns pd (zv (zp_n u.2.1) a 27) := zi_ns_of (e3.2 hmb.2.1).1 hnb
                      have y1 : zs_sp first 1 0 (Gm a 19) (zp_n u.2.1 a 14) nc pd (zv (zp_n u.2.1) a 24) (zv (zp_n u.2.1) a 25) (zv (zp_n u.2.1) a 27) (zv (zp_n u.2.1) a 28) := ⟨e3.1, fun z => ⟨(e3.2 hmb.2.1).1, fun _ => hns, (e3.2 hmb.2.1).2.2⟩⟩
                      rw [← mv24, ← mv25, ← mv27, ← mv28] at y1
                      obtain ⟨y3, y4⟩ := zs_sp_settle y1 c10 c5
                      have l1 : ∀ i, i < pds → zv Gp a 27 i = zv Gm a 27 i := fun i hi => by rw [hp2, c4, Int.toNat_natCast, if_neg (by omega), c8]
                      have l2 : ∀ i, i < pds → zv Gp a 28 i = zv Gm a 28 i := fun i hi => by rw [hp3, c4, Int.toNat_natCast, if_neg (by omega), c9]
                      have l3 : zv Gp a 27 pds = 26 := by rw [hp2, c4, Int.toNat_natCast, if_pos rfl]
                      have y5 := zs_sp_push (pl' := zv Gp a 27) (pa' := zv Gp a 28) y3 hlt l1 l2 (by omega) (by omega) (Or.inr rfl)
                      have p13 : Gp a 13 = Gm a 13 := (zp_nf hfrp hp rfl).trans s13
                      have p14 : Gp a 14 = Gm a 14 := (zp_nf hfrp hp rfl).trans s14
                      have p15 : Gp a 15 = Gm a 15 := (zp_nf hfrp hp rfl).trans s15
                      have p16 : Gp a 16 = Gm a 16 := (zp_nf hfrp hp rfl).trans s16
                      have p19 : Gp a 19 = Gm a 19 := (zp_nf hfrp hp rfl).trans s19
                      have p23 : Gp a 23 = ncs := (zp_nf hfrp hp rfl).trans c3
                      have p29 : Gp a 29 = ((pds + 1 : Nat) : Int) := by rw [hp1, c4]; rfl
                      have pv24 : ∀ j, zv Gp a 24 j = zv Gs a 24 j := fun j => by rw [zv_eq p24, zv_eq s24, zp_nc hfrp hq24 rfl]
                      have pv25 : ∀ j, zv Gp a 25 j = zv Gs a 25 j := fun j => by rw [zv_eq p25, zv_eq s25, zp_nc hfrp hq25 rfl]
                      show zs_go a first 0 1 (zp_n u.2.1) Gp
                      refine ⟨zs_mk y5 (zs_tk_congr htm p13 p14 p15 p16) p23 p29 p19 p14 pv24 pv25 (fun _ => rfl) (fun _ => rfl), fun q hq => ⟨by rw [pv24, (y4 q hq).1, mv24], by rw [pv25, (y4 q hq).2, mv25]⟩, by omega, fun z => ⟨hmb.2.1, by omega⟩⟩
            · refine zp_const (pc := 181) hx hb (zd_X12_behindSum (181, .bipush 25, 2, 0, []) (List.mem_of_getElem? (i := 94) rfl)) rfl rfl ?_
              refine zp_goto (tgt := 202) (pc := 183) hx hb (zd_X12_behindSum (183, .goto 19, 3, 0, []) (List.mem_of_getElem? (i := 95) rfl)) rfl ?_
              refine zp_store (L' := [(2, 0, 25), (3, 0, rni), (0, 2, (a : Int)), (1, 0, p1)]) (pc := 202) hx hb hnL (zd_X12_behindSum (202, .istore_n 2, 1, 0, []) (List.mem_of_getElem? (i := 103) rfl)) rfl rfl rfl ?_
              refine zp_load (pc := 203) hx hb (zd_X12_behindSum (203, .aload_n 0, 1, 0, []) (List.mem_of_getElem? (i := 104) rfl)) rfl (j := 2) rfl ?_
              refine zp_load (pc := 204) hx hb (zd_X12_behindSum (204, .iload_n 2, 1, 0, []) (List.mem_of_getElem? (i := 105) rfl)) rfl (j := 0) rfl ?_
              refine zp_const (pc := 205) hx hb (zd_X12_behindSum (205, .bipush 27, 2, 0, []) (List.mem_of_getElem? (i := 106) rfl)) rfl rfl ?_
              refine zp_icmp (pc := 207) (tgt := 219) hx hb (zd_X12_behindSum (207, .if_icmp .ne 12, 3, 0, []) (List.mem_of_getElem? (i := 107) rfl)) rfl (fun (hc95 : ¬ 25 = 27) => ?_) (fun (hc95 : ¬ (¬ 25 = 27)) => ?_)
              · refine zp_const (pc := 219) hx hb (zd_X12_behindSum (219, .iconst 1, 1, 0, []) (List.mem_of_getElem? (i := 112) rfl)) rfl rfl ?_
                refine zp_goto (tgt := 224) (pc := 220) hx hb (zd_X12_behindSum (220, .goto 4, 3, 0, []) (List.mem_of_getElem? (i := 113) rfl)) rfl ?_
                refine zp_call (pc := 224) (how := 0) (idx := 275) (mi := 217) (S := []) hx hb hE hw heff hrm (zX_mu hW) rfl (j := 19) rfl rfl (by decide +kernel) (zd_X12_behindSum (224, .invokevirtual 275, 3, 0, []) (List.mem_of_getElem? (i := 115) rfl)) [(a : Int), 1] rfl ⟨zp_o2 hp, zp_o0 (by omega) (by omega) (by omega) (by omega), trivial⟩ (Nat.le_of_ble_eq_true rfl) htk (fun al hal rnm Pm Gm hextm hfrm hokm hcsm hpsim => ?_)
                obtain rfl := List.mem_singleton.mp hal
                obtain ⟨rfl, htm, hmm⟩ := hpsim
                have htm : zs_tk a Gm := htm
                have hmm : zs_mu a 1 (zp_n u.2.1) Gm := hmm
                have htm2 := htm
                obtain ⟨m1, m2, m3, m4, m5, m6⟩ := htm2
                have m24 : Gm a 24 = (b24 : Int) := (zp_nf hfrm hp rfl).trans hb24
                have m25 : Gm a 25 = (b25 : Int) := (zp_nf hfrm hp rfl).trans hb25
                have m27 : Gm a 27 = (b27 : Int) := (zp_nf hfrm hp rfl).trans hb27
                have m28 : Gm a 28 = (b28 : Int) := (zp_nf hfrm hp rfl).trans hb28
                have m13 : Gm a 13 = zp_n u.2.1 a 13 := zp_nf hfrm hp rfl
                have m23 : Gm a 23 = zp_n u.2.1 a 23 := zp_nf hfrm hp rfl
                have m29 : Gm a 29 = zp_n u.2.1 a 29 := zp_nf hfrm hp rfl
                have mv24 : zv Gm a 24 = zv (zp_n u.2.1) a 24 := funext fun j => by rw [zv_eq m24, zv_eq hb24, zp_nc hfrm hq24 rfl]
                have mv25 : zv Gm a 25 = zv (zp_n u.2.1) a 25 := funext fun j => by rw [zv_eq m25, zv_eq hb25, zp_nc hfrm hq25 rfl]
                have mv27 : zv Gm a 27 = zv (zp_n u.2.1) a 27 := funext fun j => by rw [zv_eq m27, zv_eq hb27, zp_nc hfrm hq27 rfl]
                have mv28 : zv Gm a 28 = zv (zp_n u.2.1) a 28 := funext fun j => by rw [zv_eq m28, zv_eq hb28, zp_nc hfrm hq28 rfl]
                refine zp_load (pc := 227) hx hb (zd_X12_behindSum (227, .aload_n 0, 1, 0, []) (List.mem_of_getElem? (i := 116) rfl)) rfl (j := 2) rfl ?_
                refine zp_getf (n := (Gm a 19)) (pc := 228) hx hb hE hw (zd_X12_behindSum (228, .getfield 240, 3, 0, []) (List.mem_of_getElem? (i := 117) rfl)) (j := 37) rfl rfl rfl hp rfl ?_
                refine zp_if (pc := 231) (tgt := 245) hx hb (zd_X12_behindSum (231, .ifCond .ne 14, 3, 0, []) (List.mem_of_getElem? (i := 118) rfl)) rfl (fun (hc96 : ¬ (Gm a 19) = 0) => ?_) (fun (hc96 : ¬ (¬ (Gm a 19) = 0)) => ?_)
                · refine zp_const (pc := 245) hx hb (zd_X12_behindSum (245, .iconst 1, 1, 0, []) (List.mem_of_getElem? (i := 126) rfl)) rfl rfl ?_
                  refine zp_iret (pc := 246) (n := 1) hx hb hE hQ hU5 rfl (by decide) (zd_X12_behindSum (246, .ireturn, 1, 0, []) (List.mem_of_getElem? (i := 127) rfl)) (j := 0) rfl (zp_o0 (by omega) (by omega) (by omega) (by omega)) ?_
                  rw [hps]
                  refine ⟨rfl, by show 1 = 1 ∨ 1 = 2 ∨ 1 = 3 ∨ 1 = 4; decide, fun z => absurd z (by decide), fun z => absurd z (by decide), fun first hz => ⟨fun _ => ?_, fun z => absurd z (by decide), fun z => absurd z (by decide)⟩⟩
                  have hmb : Gm a 19 = 1 ∧ Gm a 14 = zp_n u.2.1 a 14 := by unfold zs_mu at hmm; omega
                  have hz : zs first 1 1 a (zp_n u.2.1) := hz
                  obtain ⟨-, nc2, pd2, e1, e2, e3⟩ := hz
                  obtain rfl : nc = nc2 := by omega
                  obtain rfl : pd = pd2 := by omega
                  show zs_go a first 0 1 (zp_n u.2.1) Gm
                  refine ⟨zs_mk (bad := Gm a 19) (fr := Gm a 14) (nc := nc) (pd := pd) ⟨?_, fun z => by omega⟩ htm (m23.trans e1) (m29.trans e2) rfl rfl (fun q => by rw [mv24]) (fun q => by rw [mv25]) (fun q => by rw [mv27]) (fun q => by rw [mv28]), fun q _ => ⟨by rw [mv24], by rw [mv25]⟩, by omega, fun z => by omega⟩
                  rw [hmb.2]
                  exact e3.1
                · refine zp_load (pc := 234) hx hb (zd_X12_behindSum (234, .aload_n 0, 1, 0, []) (List.mem_of_getElem? (i := 119) rfl)) rfl (j := 2) rfl ?_
                  refine zp_const (pc := 235) hx hb (zd_X12_behindSum (235, .iconst 5, 1, 0, []) (List.mem_of_getElem? (i := 120) rfl)) rfl rfl ?_
                  have hmb : Gm a 19 = 0 ∧ zp_n u.2.1 a 19 = 0 ∧ 1 = 1 ∧ zp_n u.2.1 a 15 ≤ Gm a 14 := by unfold zs_mu at hmm; omega
                  have hlt : zp_n u.2.1 a 14 + 1 ≤ Gm a 14 := by have := t6 (by omega); omega
                  have hwkm : zi_wk f0 nc pd (Gm a 14) (zv Gm a 27) (zv Gm a 28) := by rw [mv27, mv28]; exact zi_wk_le hsp (by omega)
                  refine zp_call (pc := 236) (how := 0) (idx := 344) (mi := 231) (S := []) hx hb hE hw heff hrm (zX_se hW) rfl (j := 33) rfl rfl (by decide +kernel) (zd_X12_behindSum (236, .invokevirtual 344, 3, 0, []) (List.mem_of_getElem? (i := 121) rfl)) [(a : Int), 5] rfl ⟨zp_o2 hp, zp_o0 (by omega) (by omega) (by omega) (by omega), trivial⟩ (Nat.le_of_ble_eq_true rfl) ⟨f0, nc, pd, Gm a 14, m23.trans hnc, m29.trans hpd, hwkm, by omega, (show (1 : Int) ≤ 5 by decide)⟩ (fun al hal rns Ps Gs hexts hfrs hoks hcss hpsis => ?_)
                  obtain rfl := List.mem_singleton.mp hal
                  obtain ⟨rfl, hsets, htops⟩ := hpsis
                  have hsets : zs_set 5 a Gm Gs := hsets
                  have htops : ∀ pd' : Nat, Gs a 29 = pd' → pd' = 0 ∨ zbinds (zv Gm a 27 (pd' - 1)) < 5 := htops
                  obtain ⟨nc1, pd1, ncs, pds, c1, c2, c3, c4, c5, c6, c7, c8, c9, c10⟩ := hsets
                  obtain rfl : nc = nc1 := by omega
                  obtain rfl : pd = pd1 := by omega
                  have s24 : Gs a 24 = (b24 : Int) := (zp_nf hfrs hp rfl).trans m24
                  have s25 : Gs a 25 = (b25 : Int) := (zp_nf hfrs hp rfl).trans m25
                  have s27 : Gs a 27 = (b27 : Int) := (zp_nf hfrs hp rfl).trans m27
                  have s28 : Gs a 28 = (b28 : Int) := (zp_nf hfrs hp rfl).trans m28
                  have s13 : Gs a 13 = Gm a 13 := zp_nf hfrs hp rfl
                  have s14 : Gs a 14 = Gm a 14 := zp_nf hfrs hp rfl
                  have s15 : Gs a 15 = Gm a 15 := zp_nf hfrs hp rfl
                  have s16 : Gs a 16 = Gm a 16 := zp_nf hfrs hp rfl
                  have s19 : Gs a 19 = Gm a 19 := zp_nf hfrs hp rfl
                  refine zp_load (pc := 239) hx hb (zd_X12_behindSum (239, .aload_n 0, 1, 0, []) (List.mem_of_getElem? (i := 122) rfl)) rfl (j := 2) rfl ?_
                  refine zp_load (pc := 240) hx hb (zd_X12_behindSum (240, .iload_n 2, 1, 0, []) (List.mem_of_getElem? (i := 123) rfl)) rfl (j := 0) rfl ?_
                  refine zp_const (pc := 241) hx hb (zd_X12_behindSum (241, .iconst 0, 1, 0, []) (List.mem_of_getElem? (i := 124) rfl)) rfl rfl ?_
                  have h400 : Gs a 29 < 400 := by omega
                  refine zp_call (pc := 242) (how := 0) (idx := 307) (mi := 220) (S := []) hx hb hE hw heff hrm (zX_pu hW) rfl (j := 22) rfl rfl (by decide +kernel) (zd_X12_behindSum (242, .invokevirtual 307, 3, 0, []) (List.mem_of_getElem? (i := 125) rfl)) [(a : Int), 25, 0] rfl ⟨zp_o2 hp, zp_o0 (by omega) (by omega) (by omega) (by omega), zp_o0 (by decide) (by decide) (by decide) (by decide), trivial⟩ (Nat.le_of_ble_eq_true rfl) h400 (fun al hal rnp Pp Gp hextp hfrp hokp hcsp hpsip => ?_)
                  obtain rfl := List.mem_singleton.mp hal
                  obtain ⟨rfl, hp1, hp2, hp3⟩ := hpsip
                  have hp1 : Gp a 29 = Gs a 29 + 1 := hp1
                  have hp2 : ∀ j : Nat, zv Gp a 27 j = if j = (Gs a 29).toNat then 25 else zv Gs a 27 j := hp2
                  have hp3 : ∀ j : Nat, zv Gp a 28 j = if j = (Gs a 29).toNat then 0 else zv Gs a 28 j := hp3
                  have p24 : Gp a 24 = (b24 : Int) := (zp_nf hfrp hp rfl).trans s24
                  have p25 : Gp a 25 = (b25 : Int) := (zp_nf hfrp hp rfl).trans s25
                  have p27 : Gp a 27 = (b27 : Int) := (zp_nf hfrp hp rfl).trans s27
                  have p28 : Gp a 28 = (b28 : Int) := (zp_nf hfrp hp rfl).trans s28
                  refine zp_const (pc := 245) hx hb (zd_X12_behindSum (245, .iconst 1, 1, 0, []) (List.mem_of_getElem? (i := 126) rfl)) rfl rfl ?_
                  refine zp_iret (pc := 246) (n := 1) hx hb hE hQ hU5 rfl (by decide) (zd_X12_behindSum (246, .ireturn, 1, 0, []) (List.mem_of_getElem? (i := 127) rfl)) (j := 0) rfl (zp_o0 (by omega) (by omega) (by omega) (by omega)) ?_
                  rw [hps]
                  refine ⟨rfl, by show 1 = 1 ∨ 1 = 2 ∨ 1 = 3 ∨ 1 = 4; decide, fun z => absurd z (by decide), fun z => absurd z (by decide), fun first hz => ⟨fun _ => ?_, fun z => absurd z (by decide), fun z => absurd z (by decide)⟩⟩
                  have hz : zs first 1 1 a (zp_n u.2.1) := hz
                  obtain ⟨-, nc2, pd2, e1, e2, e3⟩ := hz
                  obtain rfl : nc = nc2 := by omega
                  obtain rfl : pd = pd2 := by omega
                  have hns : zi_ns pd (zv (zp_n u.2.1) a 27) := zi_ns_of (e3.2 hmb.2.1).1 hnb
                  have y1 : zs_sp first 1 0 (Gm a 19) (zp_n u.2.1 a 14) nc pd (zv (zp_n u.2.1) a 24) (zv (zp_n u.2.1) a 25) (zv (zp_n u.2.1) a 27) (zv (zp_n u.2.1) a 28) := ⟨e3.1, fun z => ⟨(e3.2 hmb.2.1).1, fun _ => hns, (e3.2 hmb.2.1).2.2⟩⟩
                  rw [← mv24, ← mv25, ← mv27, ← mv28] at y1
                  obtain ⟨y3, y4⟩ := zs_sp_settle y1 c10 c5
                  have l1 : ∀ i, i < pds → zv Gp a 27 i = zv Gm a 27 i := fun i hi => by rw [hp2, c4, Int.toNat_natCast, if_neg (by omega), c8]
                  have l2 : ∀ i, i < pds → zv Gp a 28 i = zv Gm a 28 i := fun i hi => by rw [hp3, c4, Int.toNat_natCast, if_neg (by omega), c9]
                  have l3 : zv Gp a 27 pds = 25 := by rw [hp2, c4, Int.toNat_natCast, if_pos rfl]
                  have y5 := zs_sp_push (pl' := zv Gp a 27) (pa' := zv Gp a 28) y3 hlt l1 l2 (by omega) (by omega) (Or.inr rfl)
                  have p13 : Gp a 13 = Gm a 13 := (zp_nf hfrp hp rfl).trans s13
                  have p14 : Gp a 14 = Gm a 14 := (zp_nf hfrp hp rfl).trans s14
                  have p15 : Gp a 15 = Gm a 15 := (zp_nf hfrp hp rfl).trans s15
                  have p16 : Gp a 16 = Gm a 16 := (zp_nf hfrp hp rfl).trans s16
                  have p19 : Gp a 19 = Gm a 19 := (zp_nf hfrp hp rfl).trans s19
                  have p23 : Gp a 23 = ncs := (zp_nf hfrp hp rfl).trans c3
                  have p29 : Gp a 29 = ((pds + 1 : Nat) : Int) := by rw [hp1, c4]; rfl
                  have pv24 : ∀ j, zv Gp a 24 j = zv Gs a 24 j := fun j => by rw [zv_eq p24, zv_eq s24, zp_nc hfrp hq24 rfl]
                  have pv25 : ∀ j, zv Gp a 25 j = zv Gs a 25 j := fun j => by rw [zv_eq p25, zv_eq s25, zp_nc hfrp hq25 rfl]
                  show zs_go a first 0 1 (zp_n u.2.1) Gp
                  refine ⟨zs_mk y5 (zs_tk_congr htm p13 p14 p15 p16) p23 p29 p19 p14 pv24 pv25 (fun _ => rfl) (fun _ => rfl), fun q hq => ⟨by rw [pv24, (y4 q hq).1, mv24], by rw [pv25, (y4 q hq).2, mv25]⟩, by omega, fun z => ⟨hmb.2.1, by omega⟩⟩
              · refine zp_load (pc := 210) hx hb (zd_X12_behindSum (210, .aload_n 0, 1, 0, []) (List.mem_of_getElem? (i := 108) rfl)) rfl (j := 2) rfl ?_
                refine zp_const (pc := 211) hx hb (zd_X12_behindSum (211, .bipush 61, 2, 0, []) (List.mem_of_getElem? (i := 109) rfl)) rfl rfl ?_
                refine zp_call (pc := 213) (how := 0) (idx := 313) (mi := 221) (S := [(2, (a : Int))]) hx hb hE hw heff hrm (zX_si hW) rfl (j := 23) rfl rfl (by decide +kernel) (zd_X12_behindSum (213, .invokevirtual 313, 3, 0, []) (List.mem_of_getElem? (i := 110) rfl)) [(a : Int), 61] rfl ⟨zp_o2 hp, zp_o0 (by decide) (by decide) (by decide) (by decide), trivial⟩ (Nat.le_of_ble_eq_true rfl) trivial (fun al hal rnz Pz Gz hextz hfrz hokz hcsz hpsiz => ?_)
                obtain rfl := List.mem_singleton.mp hal
                have hrz := zp_int (hokz _ rfl).1
                obtain ⟨hPez, hGez, htz⟩ := hpsiz
                rw [hPez, hGez]
                have htz : rnz = 1 → zp_n u.2.1 a 16 = 3 := htz
                refine zp_if (pc := 216) (tgt := 223) hx hb (zd_X12_behindSum (216, .ifCond .eq 7, 3, 0, []) (List.mem_of_getElem? (i := 111) rfl)) rfl (fun (hc97 : rnz = 0) => ?_) (fun (hc97 : ¬ (rnz = 0)) => ?_)
                · refine zp_const (pc := 223) hx hb (zd_X12_behindSum (223, .iconst 0, 1, 0, []) (List.mem_of_getElem? (i := 114) rfl)) rfl rfl ?_
                  refine zp_call (pc := 224) (how := 0) (idx := 275) (mi := 217) (S := []) hx hb hE hw heff hrm (zX_mu hW) rfl (j := 19) rfl rfl (by decide +kernel) (zd_X12_behindSum (224, .invokevirtual 275, 3, 0, []) (List.mem_of_getElem? (i := 115) rfl)) [(a : Int), 0] rfl ⟨zp_o2 hp, zp_o0 (by omega) (by omega) (by omega) (by omega), trivial⟩ (Nat.le_of_ble_eq_true rfl) htk (fun al hal rnm Pm Gm hextm hfrm hokm hcsm hpsim => ?_)
                  obtain rfl := List.mem_singleton.mp hal
                  obtain ⟨rfl, htm, hmm⟩ := hpsim
                  have htm : zs_tk a Gm := htm
                  have hmm : zs_mu a 0 (zp_n u.2.1) Gm := hmm
                  have htm2 := htm
                  obtain ⟨m1, m2, m3, m4, m5, m6⟩ := htm2
                  have m24 : Gm a 24 = (b24 : Int) := (zp_nf hfrm hp rfl).trans hb24
                  have m25 : Gm a 25 = (b25 : Int) := (zp_nf hfrm hp rfl).trans hb25
                  have m27 : Gm a 27 = (b27 : Int) := (zp_nf hfrm hp rfl).trans hb27
                  have m28 : Gm a 28 = (b28 : Int) := (zp_nf hfrm hp rfl).trans hb28
                  have m13 : Gm a 13 = zp_n u.2.1 a 13 := zp_nf hfrm hp rfl
                  have m23 : Gm a 23 = zp_n u.2.1 a 23 := zp_nf hfrm hp rfl
                  have m29 : Gm a 29 = zp_n u.2.1 a 29 := zp_nf hfrm hp rfl
                  have mv24 : zv Gm a 24 = zv (zp_n u.2.1) a 24 := funext fun j => by rw [zv_eq m24, zv_eq hb24, zp_nc hfrm hq24 rfl]
                  have mv25 : zv Gm a 25 = zv (zp_n u.2.1) a 25 := funext fun j => by rw [zv_eq m25, zv_eq hb25, zp_nc hfrm hq25 rfl]
                  have mv27 : zv Gm a 27 = zv (zp_n u.2.1) a 27 := funext fun j => by rw [zv_eq m27, zv_eq hb27, zp_nc hfrm hq27 rfl]
                  have mv28 : zv Gm a 28 = zv (zp_n u.2.1) a 28 := funext fun j => by rw [zv_eq m28, zv_eq hb28, zp_nc hfrm hq28 rfl]
                  refine zp_load (pc := 227) hx hb (zd_X12_behindSum (227, .aload_n 0, 1, 0, []) (List.mem_of_getElem? (i := 116) rfl)) rfl (j := 2) rfl ?_
                  refine zp_getf (n := (Gm a 19)) (pc := 228) hx hb hE hw (zd_X12_behindSum (228, .getfield 240, 3, 0, []) (List.mem_of_getElem? (i := 117) rfl)) (j := 37) rfl rfl rfl hp rfl ?_
                  refine zp_if (pc := 231) (tgt := 245) hx hb (zd_X12_behindSum (231, .ifCond .ne 14, 3, 0, []) (List.mem_of_getElem? (i := 118) rfl)) rfl (fun (hc98 : ¬ (Gm a 19) = 0) => ?_) (fun (hc98 : ¬ (¬ (Gm a 19) = 0)) => ?_)
                  · refine zp_const (pc := 245) hx hb (zd_X12_behindSum (245, .iconst 1, 1, 0, []) (List.mem_of_getElem? (i := 126) rfl)) rfl rfl ?_
                    refine zp_iret (pc := 246) (n := 1) hx hb hE hQ hU5 rfl (by decide) (zd_X12_behindSum (246, .ireturn, 1, 0, []) (List.mem_of_getElem? (i := 127) rfl)) (j := 0) rfl (zp_o0 (by omega) (by omega) (by omega) (by omega)) ?_
                    rw [hps]
                    refine ⟨rfl, by show 1 = 1 ∨ 1 = 2 ∨ 1 = 3 ∨ 1 = 4; decide, fun z => absurd z (by decide), fun z => absurd z (by decide), fun first hz => ⟨fun _ => ?_, fun z => absurd z (by decide), fun z => absurd z (by decide)⟩⟩
                    have hmb : Gm a 19 = 1 ∧ Gm a 14 = zp_n u.2.1 a 14 := by unfold zs_mu at hmm; omega
                    have hz : zs first 1 1 a (zp_n u.2.1) := hz
                    obtain ⟨-, nc2, pd2, e1, e2, e3⟩ := hz
                    obtain rfl : nc = nc2 := by omega
                    obtain rfl : pd = pd2 := by omega
                    show zs_go a first 0 1 (zp_n u.2.1) Gm
                    refine ⟨zs_mk (bad := Gm a 19) (fr := Gm a 14) (nc := nc) (pd := pd) ⟨?_, fun z => by omega⟩ htm (m23.trans e1) (m29.trans e2) rfl rfl (fun q => by rw [mv24]) (fun q => by rw [mv25]) (fun q => by rw [mv27]) (fun q => by rw [mv28]), fun q _ => ⟨by rw [mv24], by rw [mv25]⟩, by omega, fun z => by omega⟩
                    rw [hmb.2]
                    exact e3.1
                  · exfalso
                    unfold zs_mu at hmm
                    omega
                · refine zp_const (pc := 219) hx hb (zd_X12_behindSum (219, .iconst 1, 1, 0, []) (List.mem_of_getElem? (i := 112) rfl)) rfl rfl ?_
                  refine zp_goto (tgt := 224) (pc := 220) hx hb (zd_X12_behindSum (220, .goto 4, 3, 0, []) (List.mem_of_getElem? (i := 113) rfl)) rfl ?_
                  refine zp_call (pc := 224) (how := 0) (idx := 275) (mi := 217) (S := []) hx hb hE hw heff hrm (zX_mu hW) rfl (j := 19) rfl rfl (by decide +kernel) (zd_X12_behindSum (224, .invokevirtual 275, 3, 0, []) (List.mem_of_getElem? (i := 115) rfl)) [(a : Int), 1] rfl ⟨zp_o2 hp, zp_o0 (by omega) (by omega) (by omega) (by omega), trivial⟩ (Nat.le_of_ble_eq_true rfl) htk (fun al hal rnm Pm Gm hextm hfrm hokm hcsm hpsim => ?_)
                  obtain rfl := List.mem_singleton.mp hal
                  obtain ⟨rfl, htm, hmm⟩ := hpsim
                  have htm : zs_tk a Gm := htm
                  have hmm : zs_mu a 1 (zp_n u.2.1) Gm := hmm
                  have htm2 := htm
                  obtain ⟨m1, m2, m3, m4, m5, m6⟩ := htm2
                  have m24 : Gm a 24 = (b24 : Int) := (zp_nf hfrm hp rfl).trans hb24
                  have m25 : Gm a 25 = (b25 : Int) := (zp_nf hfrm hp rfl).trans hb25
                  have m27 : Gm a 27 = (b27 : Int) := (zp_nf hfrm hp rfl).trans hb27
                  have m28 : Gm a 28 = (b28 : Int) := (zp_nf hfrm hp rfl).trans hb28
                  have m13 : Gm a 13 = zp_n u.2.1 a 13 := zp_nf hfrm hp rfl
                  have m23 : Gm a 23 = zp_n u.2.1 a 23 := zp_nf hfrm hp rfl
                  have m29 : Gm a 29 = zp_n u.2.1 a 29 := zp_nf hfrm hp rfl
                  have mv24 : zv Gm a 24 = zv (zp_n u.2.1) a 24 := funext fun j => by rw [zv_eq m24, zv_eq hb24, zp_nc hfrm hq24 rfl]
                  have mv25 : zv Gm a 25 = zv (zp_n u.2.1) a 25 := funext fun j => by rw [zv_eq m25, zv_eq hb25, zp_nc hfrm hq25 rfl]
                  have mv27 : zv Gm a 27 = zv (zp_n u.2.1) a 27 := funext fun j => by rw [zv_eq m27, zv_eq hb27, zp_nc hfrm hq27 rfl]
                  have mv28 : zv Gm a 28 = zv (zp_n u.2.1) a 28 := funext fun j => by rw [zv_eq m28, zv_eq hb28, zp_nc hfrm hq28 rfl]
                  refine zp_load (pc := 227) hx hb (zd_X12_behindSum (227, .aload_n 0, 1, 0, []) (List.mem_of_getElem? (i := 116) rfl)) rfl (j := 2) rfl ?_
                  refine zp_getf (n := (Gm a 19)) (pc := 228) hx hb hE hw (zd_X12_behindSum (228, .getfield 240, 3, 0, []) (List.mem_of_getElem? (i := 117) rfl)) (j := 37) rfl rfl rfl hp rfl ?_
                  refine zp_if (pc := 231) (tgt := 245) hx hb (zd_X12_behindSum (231, .ifCond .ne 14, 3, 0, []) (List.mem_of_getElem? (i := 118) rfl)) rfl (fun (hc99 : ¬ (Gm a 19) = 0) => ?_) (fun (hc99 : ¬ (¬ (Gm a 19) = 0)) => ?_)
                  · refine zp_const (pc := 245) hx hb (zd_X12_behindSum (245, .iconst 1, 1, 0, []) (List.mem_of_getElem? (i := 126) rfl)) rfl rfl ?_
                    refine zp_iret (pc := 246) (n := 1) hx hb hE hQ hU5 rfl (by decide) (zd_X12_behindSum (246, .ireturn, 1, 0, []) (List.mem_of_getElem? (i := 127) rfl)) (j := 0) rfl (zp_o0 (by omega) (by omega) (by omega) (by omega)) ?_
                    rw [hps]
                    refine ⟨rfl, by show 1 = 1 ∨ 1 = 2 ∨ 1 = 3 ∨ 1 = 4; decide, fun z => absurd z (by decide), fun z => absurd z (by decide), fun first hz => ⟨fun _ => ?_, fun z => absurd z (by decide), fun z => absurd z (by decide)⟩⟩
                    have hmb : Gm a 19 = 1 ∧ Gm a 14 = zp_n u.2.1 a 14 := by unfold zs_mu at hmm; omega
                    have hz : zs first 1 1 a (zp_n u.2.1) := hz
                    obtain ⟨-, nc2, pd2, e1, e2, e3⟩ := hz
                    obtain rfl : nc = nc2 := by omega
                    obtain rfl : pd = pd2 := by omega
                    show zs_go a first 0 1 (zp_n u.2.1) Gm
                    refine ⟨zs_mk (bad := Gm a 19) (fr := Gm a 14) (nc := nc) (pd := pd) ⟨?_, fun z => by omega⟩ htm (m23.trans e1) (m29.trans e2) rfl rfl (fun q => by rw [mv24]) (fun q => by rw [mv25]) (fun q => by rw [mv27]) (fun q => by rw [mv28]), fun q _ => ⟨by rw [mv24], by rw [mv25]⟩, by omega, fun z => by omega⟩
                    rw [hmb.2]
                    exact e3.1
                  · refine zp_load (pc := 234) hx hb (zd_X12_behindSum (234, .aload_n 0, 1, 0, []) (List.mem_of_getElem? (i := 119) rfl)) rfl (j := 2) rfl ?_
                    refine zp_const (pc := 235) hx hb (zd_X12_behindSum (235, .iconst 5, 1, 0, []) (List.mem_of_getElem? (i := 120) rfl)) rfl rfl ?_
                    have hmb : Gm a 19 = 0 ∧ zp_n u.2.1 a 19 = 0 ∧ 1 = 1 ∧ zp_n u.2.1 a 15 ≤ Gm a 14 := by unfold zs_mu at hmm; omega
                    have hlt : zp_n u.2.1 a 14 + 1 ≤ Gm a 14 := by have := t6 (by omega); omega
                    have hwkm : zi_wk f0 nc pd (Gm a 14) (zv Gm a 27) (zv Gm a 28) := by rw [mv27, mv28]; exact zi_wk_le hsp (by omega)
                    refine zp_call (pc := 236) (how := 0) (idx := 344) (mi := 231) (S := []) hx hb hE hw heff hrm (zX_se hW) rfl (j := 33) rfl rfl (by decide +kernel) (zd_X12_behindSum (236, .invokevirtual 344, 3, 0, []) (List.mem_of_getElem? (i := 121) rfl)) [(a : Int), 5] rfl ⟨zp_o2 hp, zp_o0 (by omega) (by omega) (by omega) (by omega), trivial⟩ (Nat.le_of_ble_eq_true rfl) ⟨f0, nc, pd, Gm a 14, m23.trans hnc, m29.trans hpd, hwkm, by omega, (show (1 : Int) ≤ 5 by decide)⟩ (fun al hal rns Ps Gs hexts hfrs hoks hcss hpsis => ?_)
                    obtain rfl := List.mem_singleton.mp hal
                    obtain ⟨rfl, hsets, htops⟩ := hpsis
                    have hsets : zs_set 5 a Gm Gs := hsets
                    have htops : ∀ pd' : Nat, Gs a 29 = pd' → pd' = 0 ∨ zbinds (zv Gm a 27 (pd' - 1)) < 5 := htops
                    obtain ⟨nc1, pd1, ncs, pds, c1, c2, c3, c4, c5, c6, c7, c8, c9, c10⟩ := hsets
                    obtain rfl : nc = nc1 := by omega
                    obtain rfl : pd = pd1 := by omega
                    have s24 : Gs a 24 = (b24 : Int) := (zp_nf hfrs hp rfl).trans m24
                    have s25 : Gs a 25 = (b25 : Int) := (zp_nf hfrs hp rfl).trans m25
                    have s27 : Gs a 27 = (b27 : Int) := (zp_nf hfrs hp rfl).trans m27
                    have s28 : Gs a 28 = (b28 : Int) := (zp_nf hfrs hp rfl).trans m28
                    have s13 : Gs a 13 = Gm a 13 := zp_nf hfrs hp rfl
                    have s14 : Gs a 14 = Gm a 14 := zp_nf hfrs hp rfl
                    have s15 : Gs a 15 = Gm a 15 := zp_nf hfrs hp rfl
                    have s16 : Gs a 16 = Gm a 16 := zp_nf hfrs hp rfl
                    have s19 : Gs a 19 = Gm a 19 := zp_nf hfrs hp rfl
                    refine zp_load (pc := 239) hx hb (zd_X12_behindSum (239, .aload_n 0, 1, 0, []) (List.mem_of_getElem? (i := 122) rfl)) rfl (j := 2) rfl ?_
                    refine zp_load (pc := 240) hx hb (zd_X12_behindSum (240, .iload_n 2, 1, 0, []) (List.mem_of_getElem? (i := 123) rfl)) rfl (j := 0) rfl ?_
                    refine zp_const (pc := 241) hx hb (zd_X12_behindSum (241, .iconst 0, 1, 0, []) (List.mem_of_getElem? (i := 124) rfl)) rfl rfl ?_
                    have h400 : Gs a 29 < 400 := by omega
                    refine zp_call (pc := 242) (how := 0) (idx := 307) (mi := 220) (S := []) hx hb hE hw heff hrm (zX_pu hW) rfl (j := 22) rfl rfl (by decide +kernel) (zd_X12_behindSum (242, .invokevirtual 307, 3, 0, []) (List.mem_of_getElem? (i := 125) rfl)) [(a : Int), 25, 0] rfl ⟨zp_o2 hp, zp_o0 (by omega) (by omega) (by omega) (by omega), zp_o0 (by decide) (by decide) (by decide) (by decide), trivial⟩ (Nat.le_of_ble_eq_true rfl) h400 (fun al hal rnp Pp Gp hextp hfrp hokp hcsp hpsip => ?_)
                    obtain rfl := List.mem_singleton.mp hal
                    obtain ⟨rfl, hp1, hp2, hp3⟩ := hpsip
                    have hp1 : Gp a 29 = Gs a 29 + 1 := hp1
                    have hp2 : ∀ j : Nat, zv Gp a 27 j = if j = (Gs a 29).toNat then 25 else zv Gs a 27 j := hp2
                    have hp3 : ∀ j : Nat, zv Gp a 28 j = if j = (Gs a 29).toNat then 0 else zv Gs a 28 j := hp3
                    have p24 : Gp a 24 = (b24 : Int) := (zp_nf hfrp hp rfl).trans s24
                    have p25 : Gp a 25 = (b25 : Int) := (zp_nf hfrp hp rfl).trans s25
                    have p27 : Gp a 27 = (b27 : Int) := (zp_nf hfrp hp rfl).trans s27
                    have p28 : Gp a 28 = (b28 : Int) := (zp_nf hfrp hp rfl).trans s28
                    refine zp_const (pc := 245) hx hb (zd_X12_behindSum (245, .iconst 1, 1, 0, []) (List.mem_of_getElem? (i := 126) rfl)) rfl rfl ?_
                    refine zp_iret (pc := 246) (n := 1) hx hb hE hQ hU5 rfl (by decide) (zd_X12_behindSum (246, .ireturn, 1, 0, []) (List.mem_of_getElem? (i := 127) rfl)) (j := 0) rfl (zp_o0 (by omega) (by omega) (by omega) (by omega)) ?_
                    rw [hps]
                    refine ⟨rfl, by show 1 = 1 ∨ 1 = 2 ∨ 1 = 3 ∨ 1 = 4; decide, fun z => absurd z (by decide), fun z => absurd z (by decide), fun first hz => ⟨fun _ => ?_, fun z => absurd z (by decide), fun z => absurd z (by decide)⟩⟩
                    have hz : zs first 1 1 a (zp_n u.2.1) := hz
                    obtain ⟨-, nc2, pd2, e1, e2, e3⟩ := hz
                    obtain rfl : nc = nc2 := by omega
                    obtain rfl : pd = pd2 := by omega
                    have hns : zi_ns pd (zv (zp_n u.2.1) a 27) := zi_ns_of (e3.2 hmb.2.1).1 hnb
                    have y1 : zs_sp first 1 0 (Gm a 19) (zp_n u.2.1 a 14) nc pd (zv (zp_n u.2.1) a 24) (zv (zp_n u.2.1) a 25) (zv (zp_n u.2.1) a 27) (zv (zp_n u.2.1) a 28) := ⟨e3.1, fun z => ⟨(e3.2 hmb.2.1).1, fun _ => hns, (e3.2 hmb.2.1).2.2⟩⟩
                    rw [← mv24, ← mv25, ← mv27, ← mv28] at y1
                    obtain ⟨y3, y4⟩ := zs_sp_settle y1 c10 c5
                    have l1 : ∀ i, i < pds → zv Gp a 27 i = zv Gm a 27 i := fun i hi => by rw [hp2, c4, Int.toNat_natCast, if_neg (by omega), c8]
                    have l2 : ∀ i, i < pds → zv Gp a 28 i = zv Gm a 28 i := fun i hi => by rw [hp3, c4, Int.toNat_natCast, if_neg (by omega), c9]
                    have l3 : zv Gp a 27 pds = 25 := by rw [hp2, c4, Int.toNat_natCast, if_pos rfl]
                    have y5 := zs_sp_push (pl' := zv Gp a 27) (pa' := zv Gp a 28) y3 hlt l1 l2 (by omega) (by omega) (Or.inr rfl)
                    have p13 : Gp a 13 = Gm a 13 := (zp_nf hfrp hp rfl).trans s13
                    have p14 : Gp a 14 = Gm a 14 := (zp_nf hfrp hp rfl).trans s14
                    have p15 : Gp a 15 = Gm a 15 := (zp_nf hfrp hp rfl).trans s15
                    have p16 : Gp a 16 = Gm a 16 := (zp_nf hfrp hp rfl).trans s16
                    have p19 : Gp a 19 = Gm a 19 := (zp_nf hfrp hp rfl).trans s19
                    have p23 : Gp a 23 = ncs := (zp_nf hfrp hp rfl).trans c3
                    have p29 : Gp a 29 = ((pds + 1 : Nat) : Int) := by rw [hp1, c4]; rfl
                    have pv24 : ∀ j, zv Gp a 24 j = zv Gs a 24 j := fun j => by rw [zv_eq p24, zv_eq s24, zp_nc hfrp hq24 rfl]
                    have pv25 : ∀ j, zv Gp a 25 j = zv Gs a 25 j := fun j => by rw [zv_eq p25, zv_eq s25, zp_nc hfrp hq25 rfl]
                    show zs_go a first 0 1 (zp_n u.2.1) Gp
                    refine ⟨zs_mk y5 (zs_tk_congr htm p13 p14 p15 p16) p23 p29 p19 p14 pv24 pv25 (fun _ => rfl) (fun _ => rfl), fun q hq => ⟨by rw [pv24, (y4 q hq).1, mv24], by rw [pv25, (y4 q hq).2, mv25]⟩, by omega, fun z => ⟨hmb.2.1, by omega⟩⟩
          · refine zp_const (pc := 170) hx hb (zd_X12_behindSum (170, .iconst 2, 1, 0, []) (List.mem_of_getElem? (i := 88) rfl)) rfl rfl ?_
            refine zp_iret (pc := 171) (n := 2) hx hb hE hQ hU5 rfl (by decide) (zd_X12_behindSum (171, .ireturn, 1, 0, []) (List.mem_of_getElem? (i := 89) rfl)) (j := 0) rfl (zp_o0 (by omega) (by omega) (by omega) (by omega)) ?_
            rw [hps]
            refine ⟨rfl, by show 2 = 1 ∨ 2 = 2 ∨ 2 = 3 ∨ 2 = 4; decide, fun _ => rfl, fun z => absurd z (by decide), fun first hz => ⟨fun z => absurd z (by decide), fun z => absurd z (by decide), fun _ hb0 => ?_⟩⟩
            have hz : zs first 1 1 a (zp_n u.2.1) := hz
            obtain ⟨-, nc2, pd2, e1, e2, e3⟩ := hz
            obtain rfl : nc = nc2 := by omega
            obtain rfl : pd = pd2 := by omega
            show zs first 1 0 a (zp_n u.2.1)
            have hb0 : zp_n u.2.1 a 19 = 0 := hb0
            exact ⟨htk, nc, pd, e1, e2, e3.1, fun z => ⟨(e3.2 hb0).1, fun _ => zi_ns_of (e3.2 hb0).1 hnb, (e3.2 hb0).2.2⟩⟩
        · refine zp_load (pc := 157) hx hb (zd_X12_behindSum (157, .iload_n 1, 1, 0, []) (List.mem_of_getElem? (i := 81) rfl)) rfl (j := 3) rfl ?_
          refine zp_if (pc := 158) (tgt := 163) hx hb (zd_X12_behindSum (158, .ifCond .ne 5, 3, 0, []) (List.mem_of_getElem? (i := 82) rfl)) rfl (fun (hc100 : ¬ p1 = 0) => ?_) (fun (hc100 : ¬ (¬ p1 = 0)) => ?_)
          · refine zp_load (pc := 163) hx hb (zd_X12_behindSum (163, .aload_n 0, 1, 0, []) (List.mem_of_getElem? (i := 85) rfl)) rfl (j := 2) rfl ?_
            refine zp_call (pc := 164) (how := 0) (idx := 350) (mi := 233) (S := []) hx hb hE hw heff hrm (zX_ic hW) rfl (j := 35) rfl rfl (by decide +kernel) (zd_X12_behindSum (164, .invokevirtual 350, 3, 0, []) (List.mem_of_getElem? (i := 86) rfl)) [(a : Int)] rfl ⟨zp_o2 hp, trivial⟩ (Nat.le_of_ble_eq_true rfl) trivial (fun al hal rnc Pc Gc hextc hfrc hokc hcsc hpsic => ?_)
            obtain rfl := List.mem_singleton.mp hal
            have hrc := zp_int (hokc _ rfl).1
            obtain ⟨hPec, hGec⟩ := hpsic
            rw [hPec, hGec]
            have hnb : (∀ i, i < pd → zv (zp_n u.2.1) a 27 i < 31) ∨ ∃ i, i < pd ∧ zv (zp_n u.2.1) a 27 i = 31 ∧ ∀ j, i < j → j < pd → zv (zp_n u.2.1) a 27 j < 31 := by
              rcases hti with ⟨h1, h2⟩ | ⟨i, h1, h2, h3, h4⟩
              · exact Or.inl fun i hi => h2 i (by omega)
              · have h5 := (hw4 i (by omega)).2.1
                exact Or.inr ⟨i, by omega, by omega, fun j h6 h7 => h4 j h6 (by omega)⟩
            refine zp_if (pc := 167) (tgt := 172) hx hb (zd_X12_behindSum (167, .ifCond .eq 5, 3, 0, []) (List.mem_of_getElem? (i := 87) rfl)) rfl (fun (hc101 : rnc = 0) => ?_) (fun (hc101 : ¬ (rnc = 0)) => ?_)
            · refine zp_load (pc := 172) hx hb (zd_X12_behindSum (172, .aload_n 0, 1, 0, []) (List.mem_of_getElem? (i := 90) rfl)) rfl (j := 2) rfl ?_
              refine zp_const (pc := 173) hx hb (zd_X12_behindSum (173, .bipush 60, 2, 0, []) (List.mem_of_getElem? (i := 91) rfl)) rfl rfl ?_
              refine zp_call (pc := 175) (how := 0) (idx := 313) (mi := 221) (S := []) hx hb hE hw heff hrm (zX_si hW) rfl (j := 23) rfl rfl (by decide +kernel) (zd_X12_behindSum (175, .invokevirtual 313, 3, 0, []) (List.mem_of_getElem? (i := 92) rfl)) [(a : Int), 60] rfl ⟨zp_o2 hp, zp_o0 (by decide) (by decide) (by decide) (by decide), trivial⟩ (Nat.le_of_ble_eq_true rfl) trivial (fun al hal rnx Px Gx hextx hfrx hokx hcsx hpsix => ?_)
              obtain rfl := List.mem_singleton.mp hal
              have hrx := zp_int (hokx _ rfl).1
              obtain ⟨hPex, hGex, htx⟩ := hpsix
              rw [hPex, hGex]
              have htx : rnx = 1 → zp_n u.2.1 a 16 = 3 := htx
              refine zp_if (pc := 178) (tgt := 186) hx hb (zd_X12_behindSum (178, .ifCond .eq 8, 3, 0, []) (List.mem_of_getElem? (i := 93) rfl)) rfl (fun (hc102 : rnx = 0) => ?_) (fun (hc102 : ¬ (rnx = 0)) => ?_)
              · refine zp_load (pc := 186) hx hb (zd_X12_behindSum (186, .aload_n 0, 1, 0, []) (List.mem_of_getElem? (i := 96) rfl)) rfl (j := 2) rfl ?_
                refine zp_const (pc := 187) hx hb (zd_X12_behindSum (187, .bipush 62, 2, 0, []) (List.mem_of_getElem? (i := 97) rfl)) rfl rfl ?_
                refine zp_call (pc := 189) (how := 0) (idx := 313) (mi := 221) (S := []) hx hb hE hw heff hrm (zX_si hW) rfl (j := 23) rfl rfl (by decide +kernel) (zd_X12_behindSum (189, .invokevirtual 313, 3, 0, []) (List.mem_of_getElem? (i := 98) rfl)) [(a : Int), 62] rfl ⟨zp_o2 hp, zp_o0 (by decide) (by decide) (by decide) (by decide), trivial⟩ (Nat.le_of_ble_eq_true rfl) trivial (fun al hal rny Py Gy hexty hfry hoky hcsy hpsiy => ?_)
                obtain rfl := List.mem_singleton.mp hal
                have hry := zp_int (hoky _ rfl).1
                obtain ⟨hPey, hGey, hty⟩ := hpsiy
                rw [hPey, hGey]
                have hty : rny = 1 → zp_n u.2.1 a 16 = 3 := hty
                refine zp_if (pc := 192) (tgt := 200) hx hb (zd_X12_behindSum (192, .ifCond .eq 8, 3, 0, []) (List.mem_of_getElem? (i := 99) rfl)) rfl (fun (hc103 : rny = 0) => ?_) (fun (hc103 : ¬ (rny = 0)) => ?_)
                · refine zp_const (pc := 200) hx hb (zd_X12_behindSum (200, .bipush 27, 2, 0, []) (List.mem_of_getElem? (i := 102) rfl)) rfl rfl ?_
                  refine zp_store (L' := [(2, 0, 27), (3, 0, rni), (0, 2, (a : Int)), (1, 0, p1)]) (pc := 202) hx hb hnL (zd_X12_behindSum (202, .istore_n 2, 1, 0, []) (List.mem_of_getElem? (i := 103) rfl)) rfl rfl rfl ?_
                  refine zp_load (pc := 203) hx hb (zd_X12_behindSum (203, .aload_n 0, 1, 0, []) (List.mem_of_getElem? (i := 104) rfl)) rfl (j := 2) rfl ?_
                  refine zp_load (pc := 204) hx hb (zd_X12_behindSum (204, .iload_n 2, 1, 0, []) (List.mem_of_getElem? (i := 105) rfl)) rfl (j := 0) rfl ?_
                  refine zp_const (pc := 205) hx hb (zd_X12_behindSum (205, .bipush 27, 2, 0, []) (List.mem_of_getElem? (i := 106) rfl)) rfl rfl ?_
                  refine zp_icmp (pc := 207) (tgt := 219) hx hb (zd_X12_behindSum (207, .if_icmp .ne 12, 3, 0, []) (List.mem_of_getElem? (i := 107) rfl)) rfl (fun (hc104 : ¬ 27 = 27) => ?_) (fun (hc104 : ¬ (¬ 27 = 27)) => ?_)
                  · refine zp_const (pc := 219) hx hb (zd_X12_behindSum (219, .iconst 1, 1, 0, []) (List.mem_of_getElem? (i := 112) rfl)) rfl rfl ?_
                    refine zp_goto (tgt := 224) (pc := 220) hx hb (zd_X12_behindSum (220, .goto 4, 3, 0, []) (List.mem_of_getElem? (i := 113) rfl)) rfl ?_
                    refine zp_call (pc := 224) (how := 0) (idx := 275) (mi := 217) (S := []) hx hb hE hw heff hrm (zX_mu hW) rfl (j := 19) rfl rfl (by decide +kernel) (zd_X12_behindSum (224, .invokevirtual 275, 3, 0, []) (List.mem_of_getElem? (i := 115) rfl)) [(a : Int), 1] rfl ⟨zp_o2 hp, zp_o0 (by omega) (by omega) (by omega) (by omega), trivial⟩ (Nat.le_of_ble_eq_true rfl) htk (fun al hal rnm Pm Gm hextm hfrm hokm hcsm hpsim => ?_)
                    obtain rfl := List.mem_singleton.mp hal
                    obtain ⟨rfl, htm, hmm⟩ := hpsim
                    have htm : zs_tk a Gm := htm
                    have hmm : zs_mu a 1 (zp_n u.2.1) Gm := hmm
                    have htm2 := htm
                    obtain ⟨m1, m2, m3, m4, m5, m6⟩ := htm2
                    have m24 : Gm a 24 = (b24 : Int) := (zp_nf hfrm hp rfl).trans hb24
                    have m25 : Gm a 25 = (b25 : Int) := (zp_nf hfrm hp rfl).trans hb25
                    have m27 : Gm a 27 = (b27 : Int) := (zp_nf hfrm hp rfl).trans hb27
                    have m28 : Gm a 28 = (b28 : Int) := (zp_nf hfrm hp rfl).trans hb28
                    have m13 : Gm a 13 = zp_n u.2.1 a 13 := zp_nf hfrm hp rfl
                    have m23 : Gm a 23 = zp_n u.2.1 a 23 := zp_nf hfrm hp rfl
                    have m29 : Gm a 29 = zp_n u.2.1 a 29 := zp_nf hfrm hp rfl
                    have mv24 : zv Gm a 24 = zv (zp_n u.2.1) a 24 := funext fun j => by rw [zv_eq m24, zv_eq hb24, zp_nc hfrm hq24 rfl]
                    have mv25 : zv Gm a 25 = zv (zp_n u.2.1) a 25 := funext fun j => by rw [zv_eq m25, zv_eq hb25, zp_nc hfrm hq25 rfl]
                    have mv27 : zv Gm a 27 = zv (zp_n u.2.1) a 27 := funext fun j => by rw [zv_eq m27, zv_eq hb27, zp_nc hfrm hq27 rfl]
                    have mv28 : zv Gm a 28 = zv (zp_n u.2.1) a 28 := funext fun j => by rw [zv_eq m28, zv_eq hb28, zp_nc hfrm hq28 rfl]
                    refine zp_load (pc := 227) hx hb (zd_X12_behindSum (227, .aload_n 0, 1, 0, []) (List.mem_of_getElem? (i := 116) rfl)) rfl (j := 2) rfl ?_
                    refine zp_getf (n := (Gm a 19)) (pc := 228) hx hb hE hw (zd_X12_behindSum (228, .getfield 240, 3, 0, []) (List.mem_of_getElem? (i := 117) rfl)) (j := 37) rfl rfl rfl hp rfl ?_
                    refine zp_if (pc := 231) (tgt := 245) hx hb (zd_X12_behindSum (231, .ifCond .ne 14, 3, 0, []) (List.mem_of_getElem? (i := 118) rfl)) rfl (fun (hc105 : ¬ (Gm a 19) = 0) => ?_) (fun (hc105 : ¬ (¬ (Gm a 19) = 0)) => ?_)
                    · refine zp_const (pc := 245) hx hb (zd_X12_behindSum (245, .iconst 1, 1, 0, []) (List.mem_of_getElem? (i := 126) rfl)) rfl rfl ?_
                      refine zp_iret (pc := 246) (n := 1) hx hb hE hQ hU5 rfl (by decide) (zd_X12_behindSum (246, .ireturn, 1, 0, []) (List.mem_of_getElem? (i := 127) rfl)) (j := 0) rfl (zp_o0 (by omega) (by omega) (by omega) (by omega)) ?_
                      rw [hps]
                      refine ⟨rfl, by show 1 = 1 ∨ 1 = 2 ∨ 1 = 3 ∨ 1 = 4; decide, fun z => absurd z (by decide), fun z => absurd z (by decide), fun first hz => ⟨fun _ => ?_, fun z => absurd z (by decide), fun z => absurd z (by decide)⟩⟩
                      have hmb : Gm a 19 = 1 ∧ Gm a 14 = zp_n u.2.1 a 14 := by unfold zs_mu at hmm; omega
                      have hz : zs first 1 1 a (zp_n u.2.1) := hz
                      obtain ⟨-, nc2, pd2, e1, e2, e3⟩ := hz
                      obtain rfl : nc = nc2 := by omega
                      obtain rfl : pd = pd2 := by omega
                      show zs_go a first 0 1 (zp_n u.2.1) Gm
                      refine ⟨zs_mk (bad := Gm a 19) (fr := Gm a 14) (nc := nc) (pd := pd) ⟨?_, fun z => by omega⟩ htm (m23.trans e1) (m29.trans e2) rfl rfl (fun q => by rw [mv24]) (fun q => by rw [mv25]) (fun q => by rw [mv27]) (fun q => by rw [mv28]), fun q _ => ⟨by rw [mv24], by rw [mv25]⟩, by omega, fun z => by omega⟩
                      rw [hmb.2]
                      exact e3.1
                    · refine zp_load (pc := 234) hx hb (zd_X12_behindSum (234, .aload_n 0, 1, 0, []) (List.mem_of_getElem? (i := 119) rfl)) rfl (j := 2) rfl ?_
                      refine zp_const (pc := 235) hx hb (zd_X12_behindSum (235, .iconst 5, 1, 0, []) (List.mem_of_getElem? (i := 120) rfl)) rfl rfl ?_
                      have hmb : Gm a 19 = 0 ∧ zp_n u.2.1 a 19 = 0 ∧ 1 = 1 ∧ zp_n u.2.1 a 15 ≤ Gm a 14 := by unfold zs_mu at hmm; omega
                      have hlt : zp_n u.2.1 a 14 + 1 ≤ Gm a 14 := by have := t6 (by omega); omega
                      have hwkm : zi_wk f0 nc pd (Gm a 14) (zv Gm a 27) (zv Gm a 28) := by rw [mv27, mv28]; exact zi_wk_le hsp (by omega)
                      refine zp_call (pc := 236) (how := 0) (idx := 344) (mi := 231) (S := []) hx hb hE hw heff hrm (zX_se hW) rfl (j := 33) rfl rfl (by decide +kernel) (zd_X12_behindSum (236, .invokevirtual 344, 3, 0, []) (List.mem_of_getElem? (i := 121) rfl)) [(a : Int), 5] rfl ⟨zp_o2 hp, zp_o0 (by omega) (by omega) (by omega) (by omega), trivial⟩ (Nat.le_of_ble_eq_true rfl) ⟨f0, nc, pd, Gm a 14, m23.trans hnc, m29.trans hpd, hwkm, by omega, (show (1 : Int) ≤ 5 by decide)⟩ (fun al hal rns Ps Gs hexts hfrs hoks hcss hpsis => ?_)
                      obtain rfl := List.mem_singleton.mp hal
                      obtain ⟨rfl, hsets, htops⟩ := hpsis
                      have hsets : zs_set 5 a Gm Gs := hsets
                      have htops : ∀ pd' : Nat, Gs a 29 = pd' → pd' = 0 ∨ zbinds (zv Gm a 27 (pd' - 1)) < 5 := htops
                      obtain ⟨nc1, pd1, ncs, pds, c1, c2, c3, c4, c5, c6, c7, c8, c9, c10⟩ := hsets
                      obtain rfl : nc = nc1 := by omega
                      obtain rfl : pd = pd1 := by omega
                      have s24 : Gs a 24 = (b24 : Int) := (zp_nf hfrs hp rfl).trans m24
                      have s25 : Gs a 25 = (b25 : Int) := (zp_nf hfrs hp rfl).trans m25
                      have s27 : Gs a 27 = (b27 : Int) := (zp_nf hfrs hp rfl).trans m27
                      have s28 : Gs a 28 = (b28 : Int) := (zp_nf hfrs hp rfl).trans m28
                      have s13 : Gs a 13 = Gm a 13 := zp_nf hfrs hp rfl
                      have s14 : Gs a 14 = Gm a 14 := zp_nf hfrs hp rfl
                      have s15 : Gs a 15 = Gm a 15 := zp_nf hfrs hp rfl
                      have s16 : Gs a 16 = Gm a 16 := zp_nf hfrs hp rfl
                      have s19 : Gs a 19 = Gm a 19 := zp_nf hfrs hp rfl
                      refine zp_load (pc := 239) hx hb (zd_X12_behindSum (239, .aload_n 0, 1, 0, []) (List.mem_of_getElem? (i := 122) rfl)) rfl (j := 2) rfl ?_
                      refine zp_load (pc := 240) hx hb (zd_X12_behindSum (240, .iload_n 2, 1, 0, []) (List.mem_of_getElem? (i := 123) rfl)) rfl (j := 0) rfl ?_
                      refine zp_const (pc := 241) hx hb (zd_X12_behindSum (241, .iconst 0, 1, 0, []) (List.mem_of_getElem? (i := 124) rfl)) rfl rfl ?_
                      have h400 : Gs a 29 < 400 := by omega
                      refine zp_call (pc := 242) (how := 0) (idx := 307) (mi := 220) (S := []) hx hb hE hw heff hrm (zX_pu hW) rfl (j := 22) rfl rfl (by decide +kernel) (zd_X12_behindSum (242, .invokevirtual 307, 3, 0, []) (List.mem_of_getElem? (i := 125) rfl)) [(a : Int), 27, 0] rfl ⟨zp_o2 hp, zp_o0 (by omega) (by omega) (by omega) (by omega), zp_o0 (by decide) (by decide) (by decide) (by decide), trivial⟩ (Nat.le_of_ble_eq_true rfl) h400 (fun al hal rnp Pp Gp hextp hfrp hokp hcsp hpsip => ?_)
                      obtain rfl := List.mem_singleton.mp hal
                      obtain ⟨rfl, hp1, hp2, hp3⟩ := hpsip
                      have hp1 : Gp a 29 = Gs a 29 + 1 := hp1
                      have hp2 : ∀ j : Nat, zv Gp a 27 j = if j = (Gs a 29).toNat then 27 else zv Gs a 27 j := hp2
                      have hp3 : ∀ j : Nat, zv Gp a 28 j = if j = (Gs a 29).toNat then 0 else zv Gs a 28 j := hp3
                      have p24 : Gp a 24 = (b24 : Int) := (zp_nf hfrp hp rfl).trans s24
                      have p25 : Gp a 25 = (b25 : Int) := (zp_nf hfrp hp rfl).trans s25
                      have p27 : Gp a 27 = (b27 : Int) := (zp_nf hfrp hp rfl).trans s27
                      have p28 : Gp a 28 = (b28 : Int) := (zp_nf hfrp hp rfl).trans s28
                      refine zp_const (pc := 245) hx hb (zd_X12_behindSum (245, .iconst 1, 1, 0, []) (List.mem_of_getElem? (i := 126) rfl)) rfl rfl ?_
                      refine zp_iret (pc := 246) (n := 1) hx hb hE hQ hU5 rfl (by decide) (zd_X12_behindSum (246, .ireturn, 1, 0, []) (List.mem_of_getElem? (i := 127) rfl)) (j := 0) rfl (zp_o0 (by omega) (by omega) (by omega) (by omega)) ?_
                      rw [hps]
                      refine ⟨rfl, by show 1 = 1 ∨ 1 = 2 ∨ 1 = 3 ∨ 1 = 4; decide, fun z => absurd z (by decide), fun z => absurd z (by decide), fun first hz => ⟨fun _ => ?_, fun z => absurd z (by decide), fun z => absurd z (by decide)⟩⟩
                      have hz : zs first 1 1 a (zp_n u.2.1) := hz
                      obtain ⟨-, nc2, pd2, e1, e2, e3⟩ := hz
                      obtain rfl : nc = nc2 := by omega
                      obtain rfl : pd = pd2 := by omega
                      have hns : zi_ns pd (zv (zp_n u.2.1) a 27) := zi_ns_of (e3.2 hmb.2.1).1 hnb
                      have y1 : zs_sp first 1 0 (Gm a 19) (zp_n u.2.1 a 14) nc pd (zv (zp_n u.2.1) a 24) (zv (zp_n u.2.1) a 25) (zv (zp_n u.2.1) a 27) (zv (zp_n u.2.1) a 28) := ⟨e3.1, fun z => ⟨(e3.2 hmb.2.1).1, fun _ => hns, (e3.2 hmb.2.1).2.2⟩⟩
                      rw [← mv24, ← mv25, ← mv27, ← mv28] at y1
                      obtain ⟨y3, y4⟩ := zs_sp_settle y1 c10 c5
                      have l1 : ∀ i, i < pds → zv Gp a 27 i = zv Gm a 27 i := fun i hi => by rw [hp2, c4, Int.toNat_natCast, if_neg (by omega), c8]
                      have l2 : ∀ i, i < pds → zv Gp a 28 i = zv Gm a 28 i := fun i hi => by rw [hp3, c4, Int.toNat_natCast, if_neg (by omega), c9]
                      have l3 : zv Gp a 27 pds = 27 := by rw [hp2, c4, Int.toNat_natCast, if_pos rfl]
                      have y5 := zs_sp_push (pl' := zv Gp a 27) (pa' := zv Gp a 28) y3 hlt l1 l2 (by omega) (by omega) (Or.inr rfl)
                      have p13 : Gp a 13 = Gm a 13 := (zp_nf hfrp hp rfl).trans s13
                      have p14 : Gp a 14 = Gm a 14 := (zp_nf hfrp hp rfl).trans s14
                      have p15 : Gp a 15 = Gm a 15 := (zp_nf hfrp hp rfl).trans s15
                      have p16 : Gp a 16 = Gm a 16 := (zp_nf hfrp hp rfl).trans s16
                      have p19 : Gp a 19 = Gm a 19 := (zp_nf hfrp hp rfl).trans s19
                      have p23 : Gp a 23 = ncs := (zp_nf hfrp hp rfl).trans c3
                      have p29 : Gp a 29 = ((pds + 1 : Nat) : Int) := by rw [hp1, c4]; rfl
                      have pv24 : ∀ j, zv Gp a 24 j = zv Gs a 24 j := fun j => by rw [zv_eq p24, zv_eq s24, zp_nc hfrp hq24 rfl]
                      have pv25 : ∀ j, zv Gp a 25 j = zv Gs a 25 j := fun j => by rw [zv_eq p25, zv_eq s25, zp_nc hfrp hq25 rfl]
                      show zs_go a first 0 1 (zp_n u.2.1) Gp
                      refine ⟨zs_mk y5 (zs_tk_congr htm p13 p14 p15 p16) p23 p29 p19 p14 pv24 pv25 (fun _ => rfl) (fun _ => rfl), fun q hq => ⟨by rw [pv24, (y4 q hq).1, mv24], by rw [pv25, (y4 q hq).2, mv25]⟩, by omega, fun z => ⟨hmb.2.1, by omega⟩⟩
                  · refine zp_load (pc := 210) hx hb (zd_X12_behindSum (210, .aload_n 0, 1, 0, []) (List.mem_of_getElem? (i := 108) rfl)) rfl (j := 2) rfl ?_
                    refine zp_const (pc := 211) hx hb (zd_X12_behindSum (211, .bipush 61, 2, 0, []) (List.mem_of_getElem? (i := 109) rfl)) rfl rfl ?_
                    refine zp_call (pc := 213) (how := 0) (idx := 313) (mi := 221) (S := [(2, (a : Int))]) hx hb hE hw heff hrm (zX_si hW) rfl (j := 23) rfl rfl (by decide +kernel) (zd_X12_behindSum (213, .invokevirtual 313, 3, 0, []) (List.mem_of_getElem? (i := 110) rfl)) [(a : Int), 61] rfl ⟨zp_o2 hp, zp_o0 (by decide) (by decide) (by decide) (by decide), trivial⟩ (Nat.le_of_ble_eq_true rfl) trivial (fun al hal rnz Pz Gz hextz hfrz hokz hcsz hpsiz => ?_)
                    obtain rfl := List.mem_singleton.mp hal
                    have hrz := zp_int (hokz _ rfl).1
                    obtain ⟨hPez, hGez, htz⟩ := hpsiz
                    rw [hPez, hGez]
                    have htz : rnz = 1 → zp_n u.2.1 a 16 = 3 := htz
                    refine zp_if (pc := 216) (tgt := 223) hx hb (zd_X12_behindSum (216, .ifCond .eq 7, 3, 0, []) (List.mem_of_getElem? (i := 111) rfl)) rfl (fun (hc106 : rnz = 0) => ?_) (fun (hc106 : ¬ (rnz = 0)) => ?_)
                    · refine zp_const (pc := 223) hx hb (zd_X12_behindSum (223, .iconst 0, 1, 0, []) (List.mem_of_getElem? (i := 114) rfl)) rfl rfl ?_
                      refine zp_call (pc := 224) (how := 0) (idx := 275) (mi := 217) (S := []) hx hb hE hw heff hrm (zX_mu hW) rfl (j := 19) rfl rfl (by decide +kernel) (zd_X12_behindSum (224, .invokevirtual 275, 3, 0, []) (List.mem_of_getElem? (i := 115) rfl)) [(a : Int), 0] rfl ⟨zp_o2 hp, zp_o0 (by omega) (by omega) (by omega) (by omega), trivial⟩ (Nat.le_of_ble_eq_true rfl) htk (fun al hal rnm Pm Gm hextm hfrm hokm hcsm hpsim => ?_)
                      obtain rfl := List.mem_singleton.mp hal
                      obtain ⟨rfl, htm, hmm⟩ := hpsim
                      have htm : zs_tk a Gm := htm
                      have hmm : zs_mu a 0 (zp_n u.2.1) Gm := hmm
                      have htm2 := htm
                      obtain ⟨m1, m2, m3, m4, m5, m6⟩ := htm2
                      have m24 : Gm a 24 = (b24 : Int) := (zp_nf hfrm hp rfl).trans hb24
                      have m25 : Gm a 25 = (b25 : Int) := (zp_nf hfrm hp rfl).trans hb25
                      have m27 : Gm a 27 = (b27 : Int) := (zp_nf hfrm hp rfl).trans hb27
                      have m28 : Gm a 28 = (b28 : Int) := (zp_nf hfrm hp rfl).trans hb28
                      have m13 : Gm a 13 = zp_n u.2.1 a 13 := zp_nf hfrm hp rfl
                      have m23 : Gm a 23 = zp_n u.2.1 a 23 := zp_nf hfrm hp rfl
                      have m29 : Gm a 29 = zp_n u.2.1 a 29 := zp_nf hfrm hp rfl
                      have mv24 : zv Gm a 24 = zv (zp_n u.2.1) a 24 := funext fun j => by rw [zv_eq m24, zv_eq hb24, zp_nc hfrm hq24 rfl]
                      have mv25 : zv Gm a 25 = zv (zp_n u.2.1) a 25 := funext fun j => by rw [zv_eq m25, zv_eq hb25, zp_nc hfrm hq25 rfl]
                      have mv27 : zv Gm a 27 = zv (zp_n u.2.1) a 27 := funext fun j => by rw [zv_eq m27, zv_eq hb27, zp_nc hfrm hq27 rfl]
                      have mv28 : zv Gm a 28 = zv (zp_n u.2.1) a 28 := funext fun j => by rw [zv_eq m28, zv_eq hb28, zp_nc hfrm hq28 rfl]
                      refine zp_load (pc := 227) hx hb (zd_X12_behindSum (227, .aload_n 0, 1, 0, []) (List.mem_of_getElem? (i := 116) rfl)) rfl (j := 2) rfl ?_
                      refine zp_getf (n := (Gm a 19)) (pc := 228) hx hb hE hw (zd_X12_behindSum (228, .getfield 240, 3, 0, []) (List.mem_of_getElem? (i := 117) rfl)) (j := 37) rfl rfl rfl hp rfl ?_
                      refine zp_if (pc := 231) (tgt := 245) hx hb (zd_X12_behindSum (231, .ifCond .ne 14, 3, 0, []) (List.mem_of_getElem? (i := 118) rfl)) rfl (fun (hc107 : ¬ (Gm a 19) = 0) => ?_) (fun (hc107 : ¬ (¬ (Gm a 19) = 0)) => ?_)
                      · refine zp_const (pc := 245) hx hb (zd_X12_behindSum (245, .iconst 1, 1, 0, []) (List.mem_of_getElem? (i := 126) rfl)) rfl rfl ?_
                        refine zp_iret (pc := 246) (n := 1) hx hb hE hQ hU5 rfl (by decide) (zd_X12_behindSum (246, .ireturn, 1, 0, []) (List.mem_of_getElem? (i := 127) rfl)) (j := 0) rfl (zp_o0 (by omega) (by omega) (by omega) (by omega)) ?_
                        rw [hps]
                        refine ⟨rfl, by show 1 = 1 ∨ 1 = 2 ∨ 1 = 3 ∨ 1 = 4; decide, fun z => absurd z (by decide), fun z => absurd z (by decide), fun first hz => ⟨fun _ => ?_, fun z => absurd z (by decide), fun z => absurd z (by decide)⟩⟩
                        have hmb : Gm a 19 = 1 ∧ Gm a 14 = zp_n u.2.1 a 14 := by unfold zs_mu at hmm; omega
                        have hz : zs first 1 1 a (zp_n u.2.1) := hz
                        obtain ⟨-, nc2, pd2, e1, e2, e3⟩ := hz
                        obtain rfl : nc = nc2 := by omega
                        obtain rfl : pd = pd2 := by omega
                        show zs_go a first 0 1 (zp_n u.2.1) Gm
                        refine ⟨zs_mk (bad := Gm a 19) (fr := Gm a 14) (nc := nc) (pd := pd) ⟨?_, fun z => by omega⟩ htm (m23.trans e1) (m29.trans e2) rfl rfl (fun q => by rw [mv24]) (fun q => by rw [mv25]) (fun q => by rw [mv27]) (fun q => by rw [mv28]), fun q _ => ⟨by rw [mv24], by rw [mv25]⟩, by omega, fun z => by omega⟩
                        rw [hmb.2]
                        exact e3.1
                      · exfalso
                        unfold zs_mu at hmm
                        omega
                    · refine zp_const (pc := 219) hx hb (zd_X12_behindSum (219, .iconst 1, 1, 0, []) (List.mem_of_getElem? (i := 112) rfl)) rfl rfl ?_
                      refine zp_goto (tgt := 224) (pc := 220) hx hb (zd_X12_behindSum (220, .goto 4, 3, 0, []) (List.mem_of_getElem? (i := 113) rfl)) rfl ?_
                      refine zp_call (pc := 224) (how := 0) (idx := 275) (mi := 217) (S := []) hx hb hE hw heff hrm (zX_mu hW) rfl (j := 19) rfl rfl (by decide +kernel) (zd_X12_behindSum (224, .invokevirtual 275, 3, 0, []) (List.mem_of_getElem? (i := 115) rfl)) [(a : Int), 1] rfl ⟨zp_o2 hp, zp_o0 (by omega) (by omega) (by omega) (by omega), trivial⟩ (Nat.le_of_ble_eq_true rfl) htk (fun al hal rnm Pm Gm hextm hfrm hokm hcsm hpsim => ?_)
                      obtain rfl := List.mem_singleton.mp hal
                      obtain ⟨rfl, htm, hmm⟩ := hpsim
                      have htm : zs_tk a Gm := htm
                      have hmm : zs_mu a 1 (zp_n u.2.1) Gm := hmm
                      have htm2 := htm
                      obtain ⟨m1, m2, m3, m4, m5, m6⟩ := htm2
                      have m24 : Gm a 24 = (b24 : Int) := (zp_nf hfrm hp rfl).trans hb24
                      have m25 : Gm a 25 = (b25 : Int) := (zp_nf hfrm hp rfl).trans hb25
                      have m27 : Gm a 27 = (b27 : Int) := (zp_nf hfrm hp rfl).trans hb27
                      have m28 : Gm a 28 = (b28 : Int) := (zp_nf hfrm hp rfl).trans hb28
                      have m13 : Gm a 13 = zp_n u.2.1 a 13 := zp_nf hfrm hp rfl
                      have m23 : Gm a 23 = zp_n u.2.1 a 23 := zp_nf hfrm hp rfl
                      have m29 : Gm a 29 = zp_n u.2.1 a 29 := zp_nf hfrm hp rfl
                      have mv24 : zv Gm a 24 = zv (zp_n u.2.1) a 24 := funext fun j => by rw [zv_eq m24, zv_eq hb24, zp_nc hfrm hq24 rfl]
                      have mv25 : zv Gm a 25 = zv (zp_n u.2.1) a 25 := funext fun j => by rw [zv_eq m25, zv_eq hb25, zp_nc hfrm hq25 rfl]
                      have mv27 : zv Gm a 27 = zv (zp_n u.2.1) a 27 := funext fun j => by rw [zv_eq m27, zv_eq hb27, zp_nc hfrm hq27 rfl]
                      have mv28 : zv Gm a 28 = zv (zp_n u.2.1) a 28 := funext fun j => by rw [zv_eq m28, zv_eq hb28, zp_nc hfrm hq28 rfl]
                      refine zp_load (pc := 227) hx hb (zd_X12_behindSum (227, .aload_n 0, 1, 0, []) (List.mem_of_getElem? (i := 116) rfl)) rfl (j := 2) rfl ?_
                      refine zp_getf (n := (Gm a 19)) (pc := 228) hx hb hE hw (zd_X12_behindSum (228, .getfield 240, 3, 0, []) (List.mem_of_getElem? (i := 117) rfl)) (j := 37) rfl rfl rfl hp rfl ?_
                      refine zp_if (pc := 231) (tgt := 245) hx hb (zd_X12_behindSum (231, .ifCond .ne 14, 3, 0, []) (List.mem_of_getElem? (i := 118) rfl)) rfl (fun (hc108 : ¬ (Gm a 19) = 0) => ?_) (fun (hc108 : ¬ (¬ (Gm a 19) = 0)) => ?_)
                      · refine zp_const (pc := 245) hx hb (zd_X12_behindSum (245, .iconst 1, 1, 0, []) (List.mem_of_getElem? (i := 126) rfl)) rfl rfl ?_
                        refine zp_iret (pc := 246) (n := 1) hx hb hE hQ hU5 rfl (by decide) (zd_X12_behindSum (246, .ireturn, 1, 0, []) (List.mem_of_getElem? (i := 127) rfl)) (j := 0) rfl (zp_o0 (by omega) (by omega) (by omega) (by omega)) ?_
                        rw [hps]
                        refine ⟨rfl, by show 1 = 1 ∨ 1 = 2 ∨ 1 = 3 ∨ 1 = 4; decide, fun z => absurd z (by decide), fun z => absurd z (by decide), fun first hz => ⟨fun _ => ?_, fun z => absurd z (by decide), fun z => absurd z (by decide)⟩⟩
                        have hmb : Gm a 19 = 1 ∧ Gm a 14 = zp_n u.2.1 a 14 := by unfold zs_mu at hmm; omega
                        have hz : zs first 1 1 a (zp_n u.2.1) := hz
                        obtain ⟨-, nc2, pd2, e1, e2, e3⟩ := hz
                        obtain rfl : nc = nc2 := by omega
                        obtain rfl : pd = pd2 := by omega
                        show zs_go a first 0 1 (zp_n u.2.1) Gm
                        refine ⟨zs_mk (bad := Gm a 19) (fr := Gm a 14) (nc := nc) (pd := pd) ⟨?_, fun z => by omega⟩ htm (m23.trans e1) (m29.trans e2) rfl rfl (fun q => by rw [mv24]) (fun q => by rw [mv25]) (fun q => by rw [mv27]) (fun q => by rw [mv28]), fun q _ => ⟨by rw [mv24], by rw [mv25]⟩, by omega, fun z => by omega⟩
                        rw [hmb.2]
                        exact e3.1
                      · refine zp_load (pc := 234) hx hb (zd_X12_behindSum (234, .aload_n 0, 1, 0, []) (List.mem_of_getElem? (i := 119) rfl)) rfl (j := 2) rfl ?_
                        refine zp_const (pc := 235) hx hb (zd_X12_behindSum (235, .iconst 5, 1, 0, []) (List.mem_of_getElem? (i := 120) rfl)) rfl rfl ?_
                        have hmb : Gm a 19 = 0 ∧ zp_n u.2.1 a 19 = 0 ∧ 1 = 1 ∧ zp_n u.2.1 a 15 ≤ Gm a 14 := by unfold zs_mu at hmm; omega
                        have hlt : zp_n u.2.1 a 14 + 1 ≤ Gm a 14 := by have := t6 (by omega); omega
                        have hwkm : zi_wk f0 nc pd (Gm a 14) (zv Gm a 27) (zv Gm a 28) := by rw [mv27, mv28]; exact zi_wk_le hsp (by omega)
                        refine zp_call (pc := 236) (how := 0) (idx := 344) (mi := 231) (S := []) hx hb hE hw heff hrm (zX_se hW) rfl (j := 33) rfl rfl (by decide +kernel) (zd_X12_behindSum (236, .invokevirtual 344, 3, 0, []) (List.mem_of_getElem? (i := 121) rfl)) [(a : Int), 5] rfl ⟨zp_o2 hp, zp_o0 (by omega) (by omega) (by omega) (by omega), trivial⟩ (Nat.le_of_ble_eq_true rfl) ⟨f0, nc, pd, Gm a 14, m23.trans hnc, m29.trans hpd, hwkm, by omega, (show (1 : Int) ≤ 5 by decide)⟩ (fun al hal rns Ps Gs hexts hfrs hoks hcss hpsis => ?_)
                        obtain rfl := List.mem_singleton.mp hal
                        obtain ⟨rfl, hsets, htops⟩ := hpsis
                        have hsets : zs_set 5 a Gm Gs := hsets
                        have htops : ∀ pd' : Nat, Gs a 29 = pd' → pd' = 0 ∨ zbinds (zv Gm a 27 (pd' - 1)) < 5 := htops
                        obtain ⟨nc1, pd1, ncs, pds, c1, c2, c3, c4, c5, c6, c7, c8, c9, c10⟩ := hsets
                        obtain rfl : nc = nc1 := by omega
                        obtain rfl : pd = pd1 := by omega
                        have s24 : Gs a 24 = (b24 : Int) := (zp_nf hfrs hp rfl).trans m24
                        have s25 : Gs a 25 = (b25 : Int) := (zp_nf hfrs hp rfl).trans m25
                        have s27 : Gs a 27 = (b27 : Int) := (zp_nf hfrs hp rfl).trans m27
                        have s28 : Gs a 28 = (b28 : Int) := (zp_nf hfrs hp rfl).trans m28
                        have s13 : Gs a 13 = Gm a 13 := zp_nf hfrs hp rfl
                        have s14 : Gs a 14 = Gm a 14 := zp_nf hfrs hp rfl
                        have s15 : Gs a 15 = Gm a 15 := zp_nf hfrs hp rfl
                        have s16 : Gs a 16 = Gm a 16 := zp_nf hfrs hp rfl
                        have s19 : Gs a 19 = Gm a 19 := zp_nf hfrs hp rfl
                        refine zp_load (pc := 239) hx hb (zd_X12_behindSum (239, .aload_n 0, 1, 0, []) (List.mem_of_getElem? (i := 122) rfl)) rfl (j := 2) rfl ?_
                        refine zp_load (pc := 240) hx hb (zd_X12_behindSum (240, .iload_n 2, 1, 0, []) (List.mem_of_getElem? (i := 123) rfl)) rfl (j := 0) rfl ?_
                        refine zp_const (pc := 241) hx hb (zd_X12_behindSum (241, .iconst 0, 1, 0, []) (List.mem_of_getElem? (i := 124) rfl)) rfl rfl ?_
                        have h400 : Gs a 29 < 400 := by omega
                        refine zp_call (pc := 242) (how := 0) (idx := 307) (mi := 220) (S := []) hx hb hE hw heff hrm (zX_pu hW) rfl (j := 22) rfl rfl (by decide +kernel) (zd_X12_behindSum (242, .invokevirtual 307, 3, 0, []) (List.mem_of_getElem? (i := 125) rfl)) [(a : Int), 27, 0] rfl ⟨zp_o2 hp, zp_o0 (by omega) (by omega) (by omega) (by omega), zp_o0 (by decide) (by decide) (by decide) (by decide), trivial⟩ (Nat.le_of_ble_eq_true rfl) h400 (fun al hal rnp Pp Gp hextp hfrp hokp hcsp hpsip => ?_)
                        obtain rfl := List.mem_singleton.mp hal
                        obtain ⟨rfl, hp1, hp2, hp3⟩ := hpsip
                        have hp1 : Gp a 29 = Gs a 29 + 1 := hp1
                        have hp2 : ∀ j : Nat, zv Gp a 27 j = if j = (Gs a 29).toNat then 27 else zv Gs a 27 j := hp2
                        have hp3 : ∀ j : Nat, zv Gp a 28 j = if j = (Gs a 29).toNat then 0 else zv Gs a 28 j := hp3
                        have p24 : Gp a 24 = (b24 : Int) := (zp_nf hfrp hp rfl).trans s24
                        have p25 : Gp a 25 = (b25 : Int) := (zp_nf hfrp hp rfl).trans s25
                        have p27 : Gp a 27 = (b27 : Int) := (zp_nf hfrp hp rfl).trans s27
                        have p28 : Gp a 28 = (b28 : Int) := (zp_nf hfrp hp rfl).trans s28
                        refine zp_const (pc := 245) hx hb (zd_X12_behindSum (245, .iconst 1, 1, 0, []) (List.mem_of_getElem? (i := 126) rfl)) rfl rfl ?_
                        refine zp_iret (pc := 246) (n := 1) hx hb hE hQ hU5 rfl (by decide) (zd_X12_behindSum (246, .ireturn, 1, 0, []) (List.mem_of_getElem? (i := 127) rfl)) (j := 0) rfl (zp_o0 (by omega) (by omega) (by omega) (by omega)) ?_
                        rw [hps]
                        refine ⟨rfl, by show 1 = 1 ∨ 1 = 2 ∨ 1 = 3 ∨ 1 = 4; decide, fun z => absurd z (by decide), fun z => absurd z (by decide), fun first hz => ⟨fun _ => ?_, fun z => absurd z (by decide), fun z => absurd z (by decide)⟩⟩
                        have hz : zs first 1 1 a (zp_n u.2.1) := hz
                        obtain ⟨-, nc2, pd2, e1, e2, e3⟩ := hz
                        obtain rfl : nc = nc2 := by omega
                        obtain rfl : pd = pd2 := by omega
                        have hns : zi_ns pd (zv (zp_n u.2.1) a 27) := zi_ns_of (e3.2 hmb.2.1).1 hnb
                        have y1 : zs_sp first 1 0 (Gm a 19) (zp_n u.2.1 a 14) nc pd (zv (zp_n u.2.1) a 24) (zv (zp_n u.2.1) a 25) (zv (zp_n u.2.1) a 27) (zv (zp_n u.2.1) a 28) := ⟨e3.1, fun z => ⟨(e3.2 hmb.2.1).1, fun _ => hns, (e3.2 hmb.2.1).2.2⟩⟩
                        rw [← mv24, ← mv25, ← mv27, ← mv28] at y1
                        obtain ⟨y3, y4⟩ := zs_sp_settle y1 c10 c5
                        have l1 : ∀ i, i < pds → zv Gp a 27 i = zv Gm a 27 i := fun i hi => by rw [hp2, c4, Int.toNat_natCast, if_neg (by omega), c8]
                        have l2 : ∀ i, i < pds → zv Gp a 28 i = zv Gm a 28 i := fun i hi => by rw [hp3, c4, Int.toNat_natCast, if_neg (by omega), c9]
                        have l3 : zv Gp a 27 pds = 27 := by rw [hp2, c4, Int.toNat_natCast, if_pos rfl]
                        have y5 := zs_sp_push (pl' := zv Gp a 27) (pa' := zv Gp a 28) y3 hlt l1 l2 (by omega) (by omega) (Or.inr rfl)
                        have p13 : Gp a 13 = Gm a 13 := (zp_nf hfrp hp rfl).trans s13
                        have p14 : Gp a 14 = Gm a 14 := (zp_nf hfrp hp rfl).trans s14
                        have p15 : Gp a 15 = Gm a 15 := (zp_nf hfrp hp rfl).trans s15
                        have p16 : Gp a 16 = Gm a 16 := (zp_nf hfrp hp rfl).trans s16
                        have p19 : Gp a 19 = Gm a 19 := (zp_nf hfrp hp rfl).trans s19
                        have p23 : Gp a 23 = ncs := (zp_nf hfrp hp rfl).trans c3
                        have p29 : Gp a 29 = ((pds + 1 : Nat) : Int) := by rw [hp1, c4]; rfl
                        have pv24 : ∀ j, zv Gp a 24 j = zv Gs a 24 j := fun j => by rw [zv_eq p24, zv_eq s24, zp_nc hfrp hq24 rfl]
                        have pv25 : ∀ j, zv Gp a 25 j = zv Gs a 25 j := fun j => by rw [zv_eq p25, zv_eq s25, zp_nc hfrp hq25 rfl]
                        show zs_go a first 0 1 (zp_n u.2.1) Gp
                        refine ⟨zs_mk y5 (zs_tk_congr htm p13 p14 p15 p16) p23 p29 p19 p14 pv24 pv25 (fun _ => rfl) (fun _ => rfl), fun q hq => ⟨by rw [pv24, (y4 q hq).1, mv24], by rw [pv25, (y4 q hq).2, mv25]⟩, by omega, fun z => ⟨hmb.2.1, by omega⟩⟩
                · refine zp_const (pc := 195) hx hb (zd_X12_behindSum (195, .bipush 26, 2, 0, []) (List.mem_of_getElem? (i := 100) rfl)) rfl rfl ?_
                  refine zp_goto (tgt := 202) (pc := 197) hx hb (zd_X12_behindSum (197, .goto 5, 3, 0, []) (List.mem_of_getElem? (i := 101) rfl)) rfl ?_
                  refine zp_store (L' := [(2, 0, 26), (3, 0, rni), (0, 2, (a : Int)), (1, 0, p1)]) (pc := 202) hx hb hnL (zd_X12_behindSum (202, .istore_n 2, 1, 0, []) (List.mem_of_getElem? (i := 103) rfl)) rfl rfl rfl ?_
                  refine zp_load (pc := 203) hx hb (zd_X12_behindSum (203, .aload_n 0, 1, 0, []) (List.mem_of_getElem? (i := 104) rfl)) rfl (j := 2) rfl ?_
                  refine zp_load (pc := 204) hx hb (zd_X12_behindSum (204, .iload_n 2, 1, 0, []) (List.mem_of_getElem? (i := 105) rfl)) rfl (j := 0) rfl ?_
                  refine zp_const (pc := 205) hx hb (zd_X12_behindSum (205, .bipush 27, 2, 0, []) (List.mem_of_getElem? (i := 106) rfl)) rfl rfl ?_
                  refine zp_icmp (pc := 207) (tgt := 219) hx hb (zd_X12_behindSum (207, .if_icmp .ne 12, 3, 0, []) (List.mem_of_getElem? (i := 107) rfl)) rfl (fun (hc109 : ¬ 26 = 27) => ?_) (fun (hc109 : ¬ (¬ 26 = 27)) => ?_)
                  · refine zp_const (pc := 219) hx hb (zd_X12_behindSum (219, .iconst 1, 1, 0, []) (List.mem_of_getElem? (i := 112) rfl)) rfl rfl ?_
                    refine zp_goto (tgt := 224) (pc := 220) hx hb (zd_X12_behindSum (220, .goto 4, 3, 0, []) (List.mem_of_getElem? (i := 113) rfl)) rfl ?_
                    refine zp_call (pc := 224) (how := 0) (idx := 275) (mi := 217) (S := []) hx hb hE hw heff hrm (zX_mu hW) rfl (j := 19) rfl rfl (by decide +kernel) (zd_X12_behindSum (224, .invokevirtual 275, 3, 0, []) (List.mem_of_getElem? (i := 115) rfl)) [(a : Int), 1] rfl ⟨zp_o2 hp, zp_o0 (by omega) (by omega) (by omega) (by omega), trivial⟩ (Nat.le_of_ble_eq_true rfl) htk (fun al hal rnm Pm Gm hextm hfrm hokm hcsm hpsim => ?_)
                    obtain rfl := List.mem_singleton.mp hal
                    obtain ⟨rfl, htm, hmm⟩ := hpsim
                    have htm : zs_tk a Gm := htm
                    have hmm : zs_mu a 1 (zp_n u.2.1) Gm := hmm
                    have htm2 := htm
                    obtain ⟨m1, m2, m3, m4, m5, m6⟩ := htm2
                    have m24 : Gm a 24 = (b24 : Int) := (zp_nf hfrm hp rfl).trans hb24
                    have m25 : Gm a 25 = (b25 : Int) := (zp_nf hfrm hp rfl).trans hb25
                    have m27 : Gm a 27 = (b27 : Int) := (zp_nf hfrm hp rfl).trans hb27
                    have m28 : Gm a 28 = (b28 : Int) := (zp_nf hfrm hp rfl).trans hb28
                    have m13 : Gm a 13 = zp_n u.2.1 a 13 := zp_nf hfrm hp rfl
                    have m23 : Gm a 23 = zp_n u.2.1 a 23 := zp_nf hfrm hp rfl
                    have m29 : Gm a 29 = zp_n u.2.1 a 29 := zp_nf hfrm hp rfl
                    have mv24 : zv Gm a 24 = zv (zp_n u.2.1) a 24 := funext fun j => by rw [zv_eq m24, zv_eq hb24, zp_nc hfrm hq24 rfl]
                    have mv25 : zv Gm a 25 = zv (zp_n u.2.1) a 25 := funext fun j => by rw [zv_eq m25, zv_eq hb25, zp_nc hfrm hq25 rfl]
                    have mv27 : zv Gm a 27 = zv (zp_n u.2.1) a 27 := funext fun j => by rw [zv_eq m27, zv_eq hb27, zp_nc hfrm hq27 rfl]
                    have mv28 : zv Gm a 28 = zv (zp_n u.2.1) a 28 := funext fun j => by rw [zv_eq m28, zv_eq hb28, zp_nc hfrm hq28 rfl]
                    refine zp_load (pc := 227) hx hb (zd_X12_behindSum (227, .aload_n 0, 1, 0, []) (List.mem_of_getElem? (i := 116) rfl)) rfl (j := 2) rfl ?_
                    refine zp_getf (n := (Gm a 19)) (pc := 228) hx hb hE hw (zd_X12_behindSum (228, .getfield 240, 3, 0, []) (List.mem_of_getElem? (i := 117) rfl)) (j := 37) rfl rfl rfl hp rfl ?_
                    refine zp_if (pc := 231) (tgt := 245) hx hb (zd_X12_behindSum (231, .ifCond .ne 14, 3, 0, []) (List.mem_of_getElem? (i := 118) rfl)) rfl (fun (hc110 : ¬ (Gm a 19) = 0) => ?_) (fun (hc110 : ¬ (¬ (Gm a 19) = 0)) => ?_)
                    · refine zp_const (pc := 245) hx hb (zd_X12_behindSum (245, .iconst 1, 1, 0, []) (List.mem_of_getElem? (i := 126) rfl)) rfl rfl ?_
                      refine zp_iret (pc := 246) (n := 1) hx hb hE hQ hU5 rfl (by decide) (zd_X12_behindSum (246, .ireturn, 1, 0, []) (List.mem_of_getElem? (i := 127) rfl)) (j := 0) rfl (zp_o0 (by omega) (by omega) (by omega) (by omega)) ?_
                      rw [hps]
                      refine ⟨rfl, by show 1 = 1 ∨ 1 = 2 ∨ 1 = 3 ∨ 1 = 4; decide, fun z => absurd z (by decide), fun z => absurd z (by decide), fun first hz => ⟨fun _ => ?_, fun z => absurd z (by decide), fun z => absurd z (by decide)⟩⟩
                      have hmb : Gm a 19 = 1 ∧ Gm a 14 = zp_n u.2.1 a 14 := by unfold zs_mu at hmm; omega
                      have hz : zs first 1 1 a (zp_n u.2.1) := hz
                      obtain ⟨-, nc2, pd2, e1, e2, e3⟩ := hz
                      obtain rfl : nc = nc2 := by omega
                      obtain rfl : pd = pd2 := by omega
                      show zs_go a first 0 1 (zp_n u.2.1) Gm
                      refine ⟨zs_mk (bad := Gm a 19) (fr := Gm a 14) (nc := nc) (pd := pd) ⟨?_, fun z => by omega⟩ htm (m23.trans e1) (m29.trans e2) rfl rfl (fun q => by rw [mv24]) (fun q => by rw [mv25]) (fun q => by rw [mv27]) (fun q => by rw [mv28]), fun q _ => ⟨by rw [mv24], by rw [mv25]⟩, by omega, fun z => by omega⟩
                      rw [hmb.2]
                      exact e3.1
                    · refine zp_load (pc := 234) hx hb (zd_X12_behindSum (234, .aload_n 0, 1, 0, []) (List.mem_of_getElem? (i := 119) rfl)) rfl (j := 2) rfl ?_
                      refine zp_const (pc := 235) hx hb (zd_X12_behindSum (235, .iconst 5, 1, 0, []) (List.mem_of_getElem? (i := 120) rfl)) rfl rfl ?_
                      have hmb : Gm a 19 = 0 ∧ zp_n u.2.1 a 19 = 0 ∧ 1 = 1 ∧ zp_n u.2.1 a 15 ≤ Gm a 14 := by unfold zs_mu at hmm; omega
                      have hlt : zp_n u.2.1 a 14 + 1 ≤ Gm a 14 := by have := t6 (by omega); omega
                      have hwkm : zi_wk f0 nc pd (Gm a 14) (zv Gm a 27) (zv Gm a 28) := by rw [mv27, mv28]; exact zi_wk_le hsp (by omega)
                      refine zp_call (pc := 236) (how := 0) (idx := 344) (mi := 231) (S := []) hx hb hE hw heff hrm (zX_se hW) rfl (j := 33) rfl rfl (by decide +kernel) (zd_X12_behindSum (236, .invokevirtual 344, 3, 0, []) (List.mem_of_getElem? (i := 121) rfl)) [(a : Int), 5] rfl ⟨zp_o2 hp, zp_o0 (by omega) (by omega) (by omega) (by omega), trivial⟩ (Nat.le_of_ble_eq_true rfl) ⟨f0, nc, pd, Gm a 14, m23.trans hnc, m29.trans hpd, hwkm, by omega, (show (1 : Int) ≤ 5 by decide)⟩ (fun al hal rns Ps Gs hexts hfrs hoks hcss hpsis => ?_)
                      obtain rfl := List.mem_singleton.mp hal
                      obtain ⟨rfl, hsets, htops⟩ := hpsis
                      have hsets : zs_set 5 a Gm Gs := hsets
                      have htops : ∀ pd' : Nat, Gs a 29 = pd' → pd' = 0 ∨ zbinds (zv Gm a 27 (pd' - 1)) < 5 := htops
                      obtain ⟨nc1, pd1, ncs, pds, c1, c2, c3, c4, c5, c6, c7, c8, c9, c10⟩ := hsets
                      obtain rfl : nc = nc1 := by omega
                      obtain rfl : pd = pd1 := by omega
                      have s24 : Gs a 24 = (b24 : Int) := (zp_nf hfrs hp rfl).trans m24
                      have s25 : Gs a 25 = (b25 : Int) := (zp_nf hfrs hp rfl).trans m25
                      have s27 : Gs a 27 = (b27 : Int) := (zp_nf hfrs hp rfl).trans m27
                      have s28 : Gs a 28 = (b28 : Int) := (zp_nf hfrs hp rfl).trans m28
                      have s13 : Gs a 13 = Gm a 13 := zp_nf hfrs hp rfl
                      have s14 : Gs a 14 = Gm a 14 := zp_nf hfrs hp rfl
                      have s15 : Gs a 15 = Gm a 15 := zp_nf hfrs hp rfl
                      have s16 : Gs a 16 = Gm a 16 := zp_nf hfrs hp rfl
                      have s19 : Gs a 19 = Gm a 19 := zp_nf hfrs hp rfl
                      refine zp_load (pc := 239) hx hb (zd_X12_behindSum (239, .aload_n 0, 1, 0, []) (List.mem_of_getElem? (i := 122) rfl)) rfl (j := 2) rfl ?_
                      refine zp_load (pc := 240) hx hb (zd_X12_behindSum (240, .iload_n 2, 1, 0, []) (List.mem_of_getElem? (i := 123) rfl)) rfl (j := 0) rfl ?_
                      refine zp_const (pc := 241) hx hb (zd_X12_behindSum (241, .iconst 0, 1, 0, []) (List.mem_of_getElem? (i := 124) rfl)) rfl rfl ?_
                      have h400 : Gs a 29 < 400 := by omega
                      refine zp_call (pc := 242) (how := 0) (idx := 307) (mi := 220) (S := []) hx hb hE hw heff hrm (zX_pu hW) rfl (j := 22) rfl rfl (by decide +kernel) (zd_X12_behindSum (242, .invokevirtual 307, 3, 0, []) (List.mem_of_getElem? (i := 125) rfl)) [(a : Int), 26, 0] rfl ⟨zp_o2 hp, zp_o0 (by omega) (by omega) (by omega) (by omega), zp_o0 (by decide) (by decide) (by decide) (by decide), trivial⟩ (Nat.le_of_ble_eq_true rfl) h400 (fun al hal rnp Pp Gp hextp hfrp hokp hcsp hpsip => ?_)
                      obtain rfl := List.mem_singleton.mp hal
                      obtain ⟨rfl, hp1, hp2, hp3⟩ := hpsip
                      have hp1 : Gp a 29 = Gs a 29 + 1 := hp1
                      have hp2 : ∀ j : Nat, zv Gp a 27 j = if j = (Gs a 29).toNat then 26 else zv Gs a 27 j := hp2
                      have hp3 : ∀ j : Nat, zv Gp a 28 j = if j = (Gs a 29).toNat then 0 else zv Gs a 28 j := hp3
                      have p24 : Gp a 24 = (b24 : Int) := (zp_nf hfrp hp rfl).trans s24
                      have p25 : Gp a 25 = (b25 : Int) := (zp_nf hfrp hp rfl).trans s25
                      have p27 : Gp a 27 = (b27 : Int) := (zp_nf hfrp hp rfl).trans s27
                      have p28 : Gp a 28 = (b28 : Int) := (zp_nf hfrp hp rfl).trans s28
                      refine zp_const (pc := 245) hx hb (zd_X12_behindSum (245, .iconst 1, 1, 0, []) (List.mem_of_getElem? (i := 126) rfl)) rfl rfl ?_
                      refine zp_iret (pc := 246) (n := 1) hx hb hE hQ hU5 rfl (by decide) (zd_X12_behindSum (246, .ireturn, 1, 0, []) (List.mem_of_getElem? (i := 127) rfl)) (j := 0) rfl (zp_o0 (by omega) (by omega) (by omega) (by omega)) ?_
                      rw [hps]
                      refine ⟨rfl, by show 1 = 1 ∨ 1 = 2 ∨ 1 = 3 ∨ 1 = 4; decide, fun z => absurd z (by decide), fun z => absurd z (by decide), fun first hz => ⟨fun _ => ?_, fun z => absurd z (by decide), fun z => absurd z (by decide)⟩⟩
                      have hz : zs first 1 1 a (zp_n u.2.1) := hz
                      obtain ⟨-, nc2, pd2, e1, e2, e3⟩ := hz
                      obtain rfl : nc = nc2 := by omega
                      obtain rfl : pd = pd2 := by omega
                      have hns : zi_ns pd (zv (zp_n u.2.1) a 27) := zi_ns_of (e3.2 hmb.2.1).1 hnb
                      have y1 : zs_sp first 1 0 (Gm a 19) (zp_n u.2.1 a 14) nc pd (zv (zp_n u.2.1) a 24) (zv (zp_n u.2.1) a 25) (zv (zp_n u.2.1) a 27) (zv (zp_n u.2.1) a 28) := ⟨e3.1, fun z => ⟨(e3.2 hmb.2.1).1, fun _ => hns, (e3.2 hmb.2.1).2.2⟩⟩
                      rw [← mv24, ← mv25, ← mv27, ← mv28] at y1
                      obtain ⟨y3, y4⟩ := zs_sp_settle y1 c10 c5
                      have l1 : ∀ i, i < pds → zv Gp a 27 i = zv Gm a 27 i := fun i hi => by rw [hp2, c4, Int.toNat_natCast, if_neg (by omega), c8]
                      have l2 : ∀ i, i < pds → zv Gp a 28 i = zv Gm a 28 i := fun i hi => by rw [hp3, c4, Int.toNat_natCast, if_neg (by omega), c9]
                      have l3 : zv Gp a 27 pds = 26 := by rw [hp2, c4, Int.toNat_natCast, if_pos rfl]
                      have y5 := zs_sp_push (pl' := zv Gp a 27) (pa' := zv Gp a 28) y3 hlt l1 l2 (by omega) (by omega) (Or.inr rfl)
                      have p13 : Gp a 13 = Gm a 13 := (zp_nf hfrp hp rfl).trans s13
                      have p14 : Gp a 14 = Gm a 14 := (zp_nf hfrp hp rfl).trans s14
                      have p15 : Gp a 15 = Gm a 15 := (zp_nf hfrp hp rfl).trans s15
                      have p16 : Gp a 16 = Gm a 16 := (zp_nf hfrp hp rfl).trans s16
                      have p19 : Gp a 19 = Gm a 19 := (zp_nf hfrp hp rfl).trans s19
                      have p23 : Gp a 23 = ncs := (zp_nf hfrp hp rfl).trans c3
                      have p29 : Gp a 29 = ((pds + 1 : Nat) : Int) := by rw [hp1, c4]; rfl
                      have pv24 : ∀ j, zv Gp a 24 j = zv Gs a 24 j := fun j => by rw [zv_eq p24, zv_eq s24, zp_nc hfrp hq24 rfl]
                      have pv25 : ∀ j, zv Gp a 25 j = zv Gs a 25 j := fun j => by rw [zv_eq p25, zv_eq s25, zp_nc hfrp hq25 rfl]
                      show zs_go a first 0 1 (zp_n u.2.1) Gp
                      refine ⟨zs_mk y5 (zs_tk_congr htm p13 p14 p15 p16) p23 p29 p19 p14 pv24 pv25 (fun _ => rfl) (fun _ => rfl), fun q hq => ⟨by rw [pv24, (y4 q hq).1, mv24], by rw [pv25, (y4 q hq).2, mv25]⟩, by omega, fun z => ⟨hmb.2.1, by omega⟩⟩
                  · refine zp_load (pc := 210) hx hb (zd_X12_behindSum (210, .aload_n 0, 1, 0, []) (List.mem_of_getElem? (i := 108) rfl)) rfl (j := 2) rfl ?_
                    refine zp_const (pc := 211) hx hb (zd_X12_behindSum (211, .bipush 61, 2, 0, []) (List.mem_of_getElem? (i := 109) rfl)) rfl rfl ?_
                    refine zp_call (pc := 213) (how := 0) (idx := 313) (mi := 221) (S := [(2, (a : Int))]) hx hb hE hw heff hrm (zX_si hW) rfl (j := 23) rfl rfl (by decide +kernel) (zd_X12_behindSum (213, .invokevirtual 313, 3, 0, []) (List.mem_of_getElem? (i := 110) rfl)) [(a : Int), 61] rfl ⟨zp_o2 hp, zp_o0 (by decide) (by decide) (by decide) (by decide), trivial⟩ (Nat.le_of_ble_eq_true rfl) trivial (fun al hal rnz Pz Gz hextz hfrz hokz hcsz hpsiz => ?_)
                    obtain rfl := List.mem_singleton.mp hal
                    have hrz := zp_int (hokz _ rfl).1
                    obtain ⟨hPez, hGez, htz⟩ := hpsiz
                    rw [hPez, hGez]
                    have htz : rnz = 1 → zp_n u.2.1 a 16 = 3 := htz
                    refine zp_if (pc := 216) (tgt := 223) hx hb (zd_X12_behindSum (216, .ifCond .eq 7, 3, 0, []) (List.mem_of_getElem? (i := 111) rfl)) rfl (fun (hc111 : rnz = 0) => ?_) (fun (hc111 : ¬ (rnz = 0)) => ?_)
                    · refine zp_const (pc := 223) hx hb (zd_X12_behindSum (223, .iconst 0, 1, 0, []) (List.mem_of_getElem? (i := 114) rfl)) rfl rfl ?_
                      refine zp_call (pc := 224) (how := 0) (idx := 275) (mi := 217) (S := []) hx hb hE hw heff hrm (zX_mu hW) rfl (j := 19) rfl rfl (by decide +kernel) (zd_X12_behindSum (224, .invokevirtual 275, 3, 0, []) (List.mem_of_getElem? (i := 115) rfl)) [(a : Int), 0] rfl ⟨zp_o2 hp, zp_o0 (by omega) (by omega) (by omega) (by omega), trivial⟩ (Nat.le_of_ble_eq_true rfl) htk (fun al hal rnm Pm Gm hextm hfrm hokm hcsm hpsim => ?_)
                      obtain rfl := List.mem_singleton.mp hal
                      obtain ⟨rfl, htm, hmm⟩ := hpsim
                      have htm : zs_tk a Gm := htm
                      have hmm : zs_mu a 0 (zp_n u.2.1) Gm := hmm
                      have htm2 := htm
                      obtain ⟨m1, m2, m3, m4, m5, m6⟩ := htm2
                      have m24 : Gm a 24 = (b24 : Int) := (zp_nf hfrm hp rfl).trans hb24
                      have m25 : Gm a 25 = (b25 : Int) := (zp_nf hfrm hp rfl).trans hb25
                      have m27 : Gm a 27 = (b27 : Int) := (zp_nf hfrm hp rfl).trans hb27
                      have m28 : Gm a 28 = (b28 : Int) := (zp_nf hfrm hp rfl).trans hb28
                      have m13 : Gm a 13 = zp_n u.2.1 a 13 := zp_nf hfrm hp rfl
                      have m23 : Gm a 23 = zp_n u.2.1 a 23 := zp_nf hfrm hp rfl
                      have m29 : Gm a 29 = zp_n u.2.1 a 29 := zp_nf hfrm hp rfl
                      have mv24 : zv Gm a 24 = zv (zp_n u.2.1) a 24 := funext fun j => by rw [zv_eq m24, zv_eq hb24, zp_nc hfrm hq24 rfl]
                      have mv25 : zv Gm a 25 = zv (zp_n u.2.1) a 25 := funext fun j => by rw [zv_eq m25, zv_eq hb25, zp_nc hfrm hq25 rfl]
                      have mv27 : zv Gm a 27 = zv (zp_n u.2.1) a 27 := funext fun j => by rw [zv_eq m27, zv_eq hb27, zp_nc hfrm hq27 rfl]
                      have mv28 : zv Gm a 28 = zv (zp_n u.2.1) a 28 := funext fun j => by rw [zv_eq m28, zv_eq hb28, zp_nc hfrm hq28 rfl]
                      refine zp_load (pc := 227) hx hb (zd_X12_behindSum (227, .aload_n 0, 1, 0, []) (List.mem_of_getElem? (i := 116) rfl)) rfl (j := 2) rfl ?_
                      refine zp_getf (n := (Gm a 19)) (pc := 228) hx hb hE hw (zd_X12_behindSum (228, .getfield 240, 3, 0, []) (List.mem_of_getElem? (i := 117) rfl)) (j := 37) rfl rfl rfl hp rfl ?_
                      refine zp_if (pc := 231) (tgt := 245) hx hb (zd_X12_behindSum (231, .ifCond .ne 14, 3, 0, []) (List.mem_of_getElem? (i := 118) rfl)) rfl (fun (hc112 : ¬ (Gm a 19) = 0) => ?_) (fun (hc112 : ¬ (¬ (Gm a 19) = 0)) => ?_)
                      · refine zp_const (pc := 245) hx hb (zd_X12_behindSum (245, .iconst 1, 1, 0, []) (List.mem_of_getElem? (i := 126) rfl)) rfl rfl ?_
                        refine zp_iret (pc := 246) (n := 1) hx hb hE hQ hU5 rfl (by decide) (zd_X12_behindSum (246, .ireturn, 1, 0, []) (List.mem_of_getElem? (i := 127) rfl)) (j := 0) rfl (zp_o0 (by omega) (by omega) (by omega) (by omega)) ?_
                        rw [hps]
                        refine ⟨rfl, by show 1 = 1 ∨ 1 = 2 ∨ 1 = 3 ∨ 1 = 4; decide, fun z => absurd z (by decide), fun z => absurd z (by decide), fun first hz => ⟨fun _ => ?_, fun z => absurd z (by decide), fun z => absurd z (by decide)⟩⟩
                        have hmb : Gm a 19 = 1 ∧ Gm a 14 = zp_n u.2.1 a 14 := by unfold zs_mu at hmm; omega
                        have hz : zs first 1 1 a (zp_n u.2.1) := hz
                        obtain ⟨-, nc2, pd2, e1, e2, e3⟩ := hz
                        obtain rfl : nc = nc2 := by omega
                        obtain rfl : pd = pd2 := by omega
                        show zs_go a first 0 1 (zp_n u.2.1) Gm
                        refine ⟨zs_mk (bad := Gm a 19) (fr := Gm a 14) (nc := nc) (pd := pd) ⟨?_, fun z => by omega⟩ htm (m23.trans e1) (m29.trans e2) rfl rfl (fun q => by rw [mv24]) (fun q => by rw [mv25]) (fun q => by rw [mv27]) (fun q => by rw [mv28]), fun q _ => ⟨by rw [mv24], by rw [mv25]⟩, by omega, fun z => by omega⟩
                        rw [hmb.2]
                        exact e3.1
                      · exfalso
                        unfold zs_mu at hmm
                        omega
                    · refine zp_const (pc := 219) hx hb (zd_X12_behindSum (219, .iconst 1, 1, 0, []) (List.mem_of_getElem? (i := 112) rfl)) rfl rfl ?_
                      refine zp_goto (tgt := 224) (pc := 220) hx hb (zd_X12_behindSum (220, .goto 4, 3, 0, []) (List.mem_of_getElem? (i := 113) rfl)) rfl ?_
                      refine zp_call (pc := 224) (how := 0) (idx := 275) (mi := 217) (S := []) hx hb hE hw heff hrm (zX_mu hW) rfl (j := 19) rfl rfl (by decide +kernel) (zd_X12_behindSum (224, .invokevirtual 275, 3, 0, []) (List.mem_of_getElem? (i := 115) rfl)) [(a : Int), 1] rfl ⟨zp_o2 hp, zp_o0 (by omega) (by omega) (by omega) (by omega), trivial⟩ (Nat.le_of_ble_eq_true rfl) htk (fun al hal rnm Pm Gm hextm hfrm hokm hcsm hpsim => ?_)
                      obtain rfl := List.mem_singleton.mp hal
                      obtain ⟨rfl, htm, hmm⟩ := hpsim
                      have htm : zs_tk a Gm := htm
                      have hmm : zs_mu a 1 (zp_n u.2.1) Gm := hmm
                      have htm2 := htm
                      obtain ⟨m1, m2, m3, m4, m5, m6⟩ := htm2
                      have m24 : Gm a 24 = (b24 : Int) := (zp_nf hfrm hp rfl).trans hb24
                      have m25 : Gm a 25 = (b25 : Int) := (zp_nf hfrm hp rfl).trans hb25
                      have m27 : Gm a 27 = (b27 : Int) := (zp_nf hfrm hp rfl).trans hb27
                      have m28 : Gm a 28 = (b28 : Int) := (zp_nf hfrm hp rfl).trans hb28
                      have m13 : Gm a 13 = zp_n u.2.1 a 13 := zp_nf hfrm hp rfl
                      have m23 : Gm a 23 = zp_n u.2.1 a 23 := zp_nf hfrm hp rfl
                      have m29 : Gm a 29 = zp_n u.2.1 a 29 := zp_nf hfrm hp rfl
                      have mv24 : zv Gm a 24 = zv (zp_n u.2.1) a 24 := funext fun j => by rw [zv_eq m24, zv_eq hb24, zp_nc hfrm hq24 rfl]
                      have mv25 : zv Gm a 25 = zv (zp_n u.2.1) a 25 := funext fun j => by rw [zv_eq m25, zv_eq hb25, zp_nc hfrm hq25 rfl]
                      have mv27 : zv Gm a 27 = zv (zp_n u.2.1) a 27 := funext fun j => by rw [zv_eq m27, zv_eq hb27, zp_nc hfrm hq27 rfl]
                      have mv28 : zv Gm a 28 = zv (zp_n u.2.1) a 28 := funext fun j => by rw [zv_eq m28, zv_eq hb28, zp_nc hfrm hq28 rfl]
                      refine zp_load (pc := 227) hx hb (zd_X12_behindSum (227, .aload_n 0, 1, 0, []) (List.mem_of_getElem? (i := 116) rfl)) rfl (j := 2) rfl ?_
                      refine zp_getf (n := (Gm a 19)) (pc := 228) hx hb hE hw (zd_X12_behindSum (228, .getfield 240, 3, 0, []) (List.mem_of_getElem? (i := 117) rfl)) (j := 37) rfl rfl rfl hp rfl ?_
                      refine zp_if (pc := 231) (tgt := 245) hx hb (zd_X12_behindSum (231, .ifCond .ne 14, 3, 0, []) (List.mem_of_getElem? (i := 118) rfl)) rfl (fun (hc113 : ¬ (Gm a 19) = 0) => ?_) (fun (hc113 : ¬ (¬ (Gm a 19) = 0)) => ?_)
                      · refine zp_const (pc := 245) hx hb (zd_X12_behindSum (245, .iconst 1, 1, 0, []) (List.mem_of_getElem? (i := 126) rfl)) rfl rfl ?_
                        refine zp_iret (pc := 246) (n := 1) hx hb hE hQ hU5 rfl (by decide) (zd_X12_behindSum (246, .ireturn, 1, 0, []) (List.mem_of_getElem? (i := 127) rfl)) (j := 0) rfl (zp_o0 (by omega) (by omega) (by omega) (by omega)) ?_
                        rw [hps]
                        refine ⟨rfl, by show 1 = 1 ∨ 1 = 2 ∨ 1 = 3 ∨ 1 = 4; decide, fun z => absurd z (by decide), fun z => absurd z (by decide), fun first hz => ⟨fun _ => ?_, fun z => absurd z (by decide), fun z => absurd z (by decide)⟩⟩
                        have hmb : Gm a 19 = 1 ∧ Gm a 14 = zp_n u.2.1 a 14 := by unfold zs_mu at hmm; omega
                        have hz : zs first 1 1 a (zp_n u.2.1) := hz
                        obtain ⟨-, nc2, pd2, e1, e2, e3⟩ := hz
                        obtain rfl : nc = nc2 := by omega
                        obtain rfl : pd = pd2 := by omega
                        show zs_go a first 0 1 (zp_n u.2.1) Gm
                        refine ⟨zs_mk (bad := Gm a 19) (fr := Gm a 14) (nc := nc) (pd := pd) ⟨?_, fun z => by omega⟩ htm (m23.trans e1) (m29.trans e2) rfl rfl (fun q => by rw [mv24]) (fun q => by rw [mv25]) (fun q => by rw [mv27]) (fun q => by rw [mv28]), fun q _ => ⟨by rw [mv24], by rw [mv25]⟩, by omega, fun z => by omega⟩
                        rw [hmb.2]
                        exact e3.1
                      · refine zp_load (pc := 234) hx hb (zd_X12_behindSum (234, .aload_n 0, 1, 0, []) (List.mem_of_getElem? (i := 119) rfl)) rfl (j := 2) rfl ?_
                        refine zp_const (pc := 235) hx hb (zd_X12_behindSum (235, .iconst 5, 1, 0, []) (List.mem_of_getElem? (i := 120) rfl)) rfl rfl ?_
                        have hmb : Gm a 19 = 0 ∧ zp_n u.2.1 a 19 = 0 ∧ 1 = 1 ∧ zp_n u.2.1 a 15 ≤ Gm a 14 := by unfold zs_mu at hmm; omega
                        have hlt : zp_n u.2.1 a 14 + 1 ≤ Gm a 14 := by have := t6 (by omega); omega
                        have hwkm : zi_wk f0 nc pd (Gm a 14) (zv Gm a 27) (zv Gm a 28) := by rw [mv27, mv28]; exact zi_wk_le hsp (by omega)
                        refine zp_call (pc := 236) (how := 0) (idx := 344) (mi := 231) (S := []) hx hb hE hw heff hrm (zX_se hW) rfl (j := 33) rfl rfl (by decide +kernel) (zd_X12_behindSum (236, .invokevirtual 344, 3, 0, []) (List.mem_of_getElem? (i := 121) rfl)) [(a : Int), 5] rfl ⟨zp_o2 hp, zp_o0 (by omega) (by omega) (by omega) (by omega), trivial⟩ (Nat.le_of_ble_eq_true rfl) ⟨f0, nc, pd, Gm a 14, m23.trans hnc, m29.trans hpd, hwkm, by omega, (show (1 : Int) ≤ 5 by decide)⟩ (fun al hal rns Ps Gs hexts hfrs hoks hcss hpsis => ?_)
                        obtain rfl := List.mem_singleton.mp hal
                        obtain ⟨rfl, hsets, htops⟩ := hpsis
                        have hsets : zs_set 5 a Gm Gs := hsets
                        have htops : ∀ pd' : Nat, Gs a 29 = pd' → pd' = 0 ∨ zbinds (zv Gm a 27 (pd' - 1)) < 5 := htops
                        obtain ⟨nc1, pd1, ncs, pds, c1, c2, c3, c4, c5, c6, c7, c8, c9, c10⟩ := hsets
                        obtain rfl : nc = nc1 := by omega
                        obtain rfl : pd = pd1 := by omega
                        have s24 : Gs a 24 = (b24 : Int) := (zp_nf hfrs hp rfl).trans m24
                        have s25 : Gs a 25 = (b25 : Int) := (zp_nf hfrs hp rfl).trans m25
                        have s27 : Gs a 27 = (b27 : Int) := (zp_nf hfrs hp rfl).trans m27
                        have s28 : Gs a 28 = (b28 : Int) := (zp_nf hfrs hp rfl).trans m28
                        have s13 : Gs a 13 = Gm a 13 := zp_nf hfrs hp rfl
                        have s14 : Gs a 14 = Gm a 14 := zp_nf hfrs hp rfl
                        have s15 : Gs a 15 = Gm a 15 := zp_nf hfrs hp rfl
                        have s16 : Gs a 16 = Gm a 16 := zp_nf hfrs hp rfl
                        have s19 : Gs a 19 = Gm a 19 := zp_nf hfrs hp rfl
                        refine zp_load (pc := 239) hx hb (zd_X12_behindSum (239, .aload_n 0, 1, 0, []) (List.mem_of_getElem? (i := 122) rfl)) rfl (j := 2) rfl ?_
                        refine zp_load (pc := 240) hx hb (zd_X12_behindSum (240, .iload_n 2, 1, 0, []) (List.mem_of_getElem? (i := 123) rfl)) rfl (j := 0) rfl ?_
                        refine zp_const (pc := 241) hx hb (zd_X12_behindSum (241, .iconst 0, 1, 0, []) (List.mem_of_getElem? (i := 124) rfl)) rfl rfl ?_
                        have h400 : Gs a 29 < 400 := by omega
                        refine zp_call (pc := 242) (how := 0) (idx := 307) (mi := 220) (S := []) hx hb hE hw heff hrm (zX_pu hW) rfl (j := 22) rfl rfl (by decide +kernel) (zd_X12_behindSum (242, .invokevirtual 307, 3, 0, []) (List.mem_of_getElem? (i := 125) rfl)) [(a : Int), 26, 0] rfl ⟨zp_o2 hp, zp_o0 (by omega) (by omega) (by omega) (by omega), zp_o0 (by decide) (by decide) (by decide) (by decide), trivial⟩ (Nat.le_of_ble_eq_true rfl) h400 (fun al hal rnp Pp Gp hextp hfrp hokp hcsp hpsip => ?_)
                        obtain rfl := List.mem_singleton.mp hal
                        obtain ⟨rfl, hp1, hp2, hp3⟩ := hpsip
                        have hp1 : Gp a 29 = Gs a 29 + 1 := hp1
                        have hp2 : ∀ j : Nat, zv Gp a 27 j = if j = (Gs a 29).toNat then 26 else zv Gs a 27 j := hp2
                        have hp3 : ∀ j : Nat, zv Gp a 28 j = if j = (Gs a 29).toNat then 0 else zv Gs a 28 j := hp3
                        have p24 : Gp a 24 = (b24 : Int) := (zp_nf hfrp hp rfl).trans s24
                        have p25 : Gp a 25 = (b25 : Int) := (zp_nf hfrp hp rfl).trans s25
                        have p27 : Gp a 27 = (b27 : Int) := (zp_nf hfrp hp rfl).trans s27
                        have p28 : Gp a 28 = (b28 : Int) := (zp_nf hfrp hp rfl).trans s28
                        refine zp_const (pc := 245) hx hb (zd_X12_behindSum (245, .iconst 1, 1, 0, []) (List.mem_of_getElem? (i := 126) rfl)) rfl rfl ?_
                        refine zp_iret (pc := 246) (n := 1) hx hb hE hQ hU5 rfl (by decide) (zd_X12_behindSum (246, .ireturn, 1, 0, []) (List.mem_of_getElem? (i := 127) rfl)) (j := 0) rfl (zp_o0 (by omega) (by omega) (by omega) (by omega)) ?_
                        rw [hps]
                        refine ⟨rfl, by show 1 = 1 ∨ 1 = 2 ∨ 1 = 3 ∨ 1 = 4; decide, fun z => absurd z (by decide), fun z => absurd z (by decide), fun first hz => ⟨fun _ => ?_, fun z => absurd z (by decide), fun z => absurd z (by decide)⟩⟩
                        have hz : zs first 1 1 a (zp_n u.2.1) := hz
                        obtain ⟨-, nc2, pd2, e1, e2, e3⟩ := hz
                        obtain rfl : nc = nc2 := by omega
                        obtain rfl : pd = pd2 := by omega
                        have hns : zi_ns pd (zv (zp_n u.2.1) a 27) := zi_ns_of (e3.2 hmb.2.1).1 hnb
                        have y1 : zs_sp first 1 0 (Gm a 19) (zp_n u.2.1 a 14) nc pd (zv (zp_n u.2.1) a 24) (zv (zp_n u.2.1) a 25) (zv (zp_n u.2.1) a 27) (zv (zp_n u.2.1) a 28) := ⟨e3.1, fun z => ⟨(e3.2 hmb.2.1).1, fun _ => hns, (e3.2 hmb.2.1).2.2⟩⟩
                        rw [← mv24, ← mv25, ← mv27, ← mv28] at y1
                        obtain ⟨y3, y4⟩ := zs_sp_settle y1 c10 c5
                        have l1 : ∀ i, i < pds → zv Gp a 27 i = zv Gm a 27 i := fun i hi => by rw [hp2, c4, Int.toNat_natCast, if_neg (by omega), c8]
                        have l2 : ∀ i, i < pds → zv Gp a 28 i = zv Gm a 28 i := fun i hi => by rw [hp3, c4, Int.toNat_natCast, if_neg (by omega), c9]
                        have l3 : zv Gp a 27 pds = 26 := by rw [hp2, c4, Int.toNat_natCast, if_pos rfl]
                        have y5 := zs_sp_push (pl' := zv Gp a 27) (pa' := zv Gp a 28) y3 hlt l1 l2 (by omega) (by omega) (Or.inr rfl)
                        have p13 : Gp a 13 = Gm a 13 := (zp_nf hfrp hp rfl).trans s13
                        have p14 : Gp a 14 = Gm a 14 := (zp_nf hfrp hp rfl).trans s14
                        have p15 : Gp a 15 = Gm a 15 := (zp_nf hfrp hp rfl).trans s15
                        have p16 : Gp a 16 = Gm a 16 := (zp_nf hfrp hp rfl).trans s16
                        have p19 : Gp a 19 = Gm a 19 := (zp_nf hfrp hp rfl).trans s19
                        have p23 : Gp a 23 = ncs := (zp_nf hfrp hp rfl).trans c3
                        have p29 : Gp a 29 = ((pds + 1 : Nat) : Int) := by rw [hp1, c4]; rfl
                        have pv24 : ∀ j, zv Gp a 24 j = zv Gs a 24 j := fun j => by rw [zv_eq p24, zv_eq s24, zp_nc hfrp hq24 rfl]
                        have pv25 : ∀ j, zv Gp a 25 j = zv Gs a 25 j := fun j => by rw [zv_eq p25, zv_eq s25, zp_nc hfrp hq25 rfl]
                        show zs_go a first 0 1 (zp_n u.2.1) Gp
                        refine ⟨zs_mk y5 (zs_tk_congr htm p13 p14 p15 p16) p23 p29 p19 p14 pv24 pv25 (fun _ => rfl) (fun _ => rfl), fun q hq => ⟨by rw [pv24, (y4 q hq).1, mv24], by rw [pv25, (y4 q hq).2, mv25]⟩, by omega, fun z => ⟨hmb.2.1, by omega⟩⟩
              · refine zp_const (pc := 181) hx hb (zd_X12_behindSum (181, .bipush 25, 2, 0, []) (List.mem_of_getElem? (i := 94) rfl)) rfl rfl ?_
                refine zp_goto (tgt := 202) (pc := 183) hx hb (zd_X12_behindSum (183, .goto 19, 3, 0, []) (List.mem_of_getElem? (i := 95) rfl)) rfl ?_
                refine zp_store (L' := [(2, 0, 25), (3, 0, rni), (0, 2, (a : Int)), (1, 0, p1)]) (pc := 202) hx hb hnL (zd_X12_behindSum (202, .istore_n 2, 1, 0, []) (List.mem_of_getElem? (i := 103) rfl)) rfl rfl rfl ?_
                refine zp_load (pc := 203) hx hb (zd_X12_behindSum (203, .aload_n 0, 1, 0, []) (List.mem_of_getElem? (i := 104) rfl)) rfl (j := 2) rfl ?_
                refine zp_load (pc := 204) hx hb (zd_X12_behindSum (204, .iload_n 2, 1, 0, []) (List.mem_of_getElem? (i := 105) rfl)) rfl (j := 0) rfl ?_
                refine zp_const (pc := 205) hx hb (zd_X12_behindSum (205, .bipush 27, 2, 0, []) (List.mem_of_getElem? (i := 106) rfl)) rfl rfl ?_
                refine zp_icmp (pc := 207) (tgt := 219) hx hb (zd_X12_behindSum (207, .if_icmp .ne 12, 3, 0, []) (List.mem_of_getElem? (i := 107) rfl)) rfl (fun (hc114 : ¬ 25 = 27) => ?_) (fun (hc114 : ¬ (¬ 25 = 27)) => ?_)
                · refine zp_const (pc := 219) hx hb (zd_X12_behindSum (219, .iconst 1, 1, 0, []) (List.mem_of_getElem? (i := 112) rfl)) rfl rfl ?_
                  refine zp_goto (tgt := 224) (pc := 220) hx hb (zd_X12_behindSum (220, .goto 4, 3, 0, []) (List.mem_of_getElem? (i := 113) rfl)) rfl ?_
                  refine zp_call (pc := 224) (how := 0) (idx := 275) (mi := 217) (S := []) hx hb hE hw heff hrm (zX_mu hW) rfl (j := 19) rfl rfl (by decide +kernel) (zd_X12_behindSum (224, .invokevirtual 275, 3, 0, []) (List.mem_of_getElem? (i := 115) rfl)) [(a : Int), 1] rfl ⟨zp_o2 hp, zp_o0 (by omega) (by omega) (by omega) (by omega), trivial⟩ (Nat.le_of_ble_eq_true rfl) htk (fun al hal rnm Pm Gm hextm hfrm hokm hcsm hpsim => ?_)
                  obtain rfl := List.mem_singleton.mp hal
                  obtain ⟨rfl, htm, hmm⟩ := hpsim
                  have htm : zs_tk a Gm := htm
                  have hmm : zs_mu a 1 (zp_n u.2.1) Gm := hmm
                  have htm2 := htm
                  obtain ⟨m1, m2, m3, m4, m5, m6⟩ := htm2
                  have m24 : Gm a 24 = (b24 : Int) := (zp_nf hfrm hp rfl).trans hb24
                  have m25 : Gm a 25 = (b25 : Int) := (zp_nf hfrm hp rfl).trans hb25
                  have m27 : Gm a 27 = (b27 : Int) := (zp_nf hfrm hp rfl).trans hb27
                  have m28 : Gm a 28 = (b28 : Int) := (zp_nf hfrm hp rfl).trans hb28
                  have m13 : Gm a 13 = zp_n u.2.1 a 13 := zp_nf hfrm hp rfl
                  have m23 : Gm a 23 = zp_n u.2.1 a 23 := zp_nf hfrm hp rfl
                  have m29 : Gm a 29 = zp_n u.2.1 a 29 := zp_nf hfrm hp rfl
                  have mv24 : zv Gm a 24 = zv (zp_n u.2.1) a 24 := funext fun j => by rw [zv_eq m24, zv_eq hb24, zp_nc hfrm hq24 rfl]
                  have mv25 : zv Gm a 25 = zv (zp_n u.2.1) a 25 := funext fun j => by rw [zv_eq m25, zv_eq hb25, zp_nc hfrm hq25 rfl]
                  have mv27 : zv Gm a 27 = zv (zp_n u.2.1) a 27 := funext fun j => by rw [zv_eq m27, zv_eq hb27, zp_nc hfrm hq27 rfl]
                  have mv28 : zv Gm a 28 = zv (zp_n u.2.1) a 28 := funext fun j => by rw [zv_eq m28, zv_eq hb28, zp_nc hfrm hq28 rfl]
                  refine zp_load (pc := 227) hx hb (zd_X12_behindSum (227, .aload_n 0, 1, 0, []) (List.mem_of_getElem? (i := 116) rfl)) rfl (j := 2) rfl ?_
                  refine zp_getf (n := (Gm a 19)) (pc := 228) hx hb hE hw (zd_X12_behindSum (228, .getfield 240, 3, 0, []) (List.mem_of_getElem? (i := 117) rfl)) (j := 37) rfl rfl rfl hp rfl ?_
                  refine zp_if (pc := 231) (tgt := 245) hx hb (zd_X12_behindSum (231, .ifCond .ne 14, 3, 0, []) (List.mem_of_getElem? (i := 118) rfl)) rfl (fun (hc115 : ¬ (Gm a 19) = 0) => ?_) (fun (hc115 : ¬ (¬ (Gm a 19) = 0)) => ?_)
                  · refine zp_const (pc := 245) hx hb (zd_X12_behindSum (245, .iconst 1, 1, 0, []) (List.mem_of_getElem? (i := 126) rfl)) rfl rfl ?_
                    refine zp_iret (pc := 246) (n := 1) hx hb hE hQ hU5 rfl (by decide) (zd_X12_behindSum (246, .ireturn, 1, 0, []) (List.mem_of_getElem? (i := 127) rfl)) (j := 0) rfl (zp_o0 (by omega) (by omega) (by omega) (by omega)) ?_
                    rw [hps]
                    refine ⟨rfl, by show 1 = 1 ∨ 1 = 2 ∨ 1 = 3 ∨ 1 = 4; decide, fun z => absurd z (by decide), fun z => absurd z (by decide), fun first hz => ⟨fun _ => ?_, fun z => absurd z (by decide), fun z => absurd z (by decide)⟩⟩
                    have hmb : Gm a 19 = 1 ∧ Gm a 14 = zp_n u.2.1 a 14 := by unfold zs_mu at hmm; omega
                    have hz : zs first 1 1 a (zp_n u.2.1) := hz
                    obtain ⟨-, nc2, pd2, e1, e2, e3⟩ := hz
                    obtain rfl : nc = nc2 := by omega
                    obtain rfl : pd = pd2 := by omega
                    show zs_go a first 0 1 (zp_n u.2.1) Gm
                    refine ⟨zs_mk (bad := Gm a 19) (fr := Gm a 14) (nc := nc) (pd := pd) ⟨?_, fun z => by omega⟩ htm (m23.trans e1) (m29.trans e2) rfl rfl (fun q => by rw [mv24]) (fun q => by rw [mv25]) (fun q => by rw [mv27]) (fun q => by rw [mv28]), fun q _ => ⟨by rw [mv24], by rw [mv25]⟩, by omega, fun z => by omega⟩
                    rw [hmb.2]
                    exact e3.1
                  · refine zp_load (pc := 234) hx hb (zd_X12_behindSum (234, .aload_n 0, 1, 0, []) (List.mem_of_getElem? (i := 119) rfl)) rfl (j := 2) rfl ?_
                    refine zp_const (pc := 235) hx hb (zd_X12_behindSum (235, .iconst 5, 1, 0, []) (List.mem_of_getElem? (i := 120) rfl)) rfl rfl ?_
                    have hmb : Gm a 19 = 0 ∧ zp_n u.2.1 a 19 = 0 ∧ 1 = 1 ∧ zp_n u.2.1 a 15 ≤ Gm a 14 := by unfold zs_mu at hmm; omega
                    have hlt : zp_n u.2.1 a 14 + 1 ≤ Gm a 14 := by have := t6 (by omega); omega
                    have hwkm : zi_wk f0 nc pd (Gm a 14) (zv Gm a 27) (zv Gm a 28) := by rw [mv27, mv28]; exact zi_wk_le hsp (by omega)
                    refine zp_call (pc := 236) (how := 0) (idx := 344) (mi := 231) (S := []) hx hb hE hw heff hrm (zX_se hW) rfl (j := 33) rfl rfl (by decide +kernel) (zd_X12_behindSum (236, .invokevirtual 344, 3, 0, []) (List.mem_of_getElem? (i := 121) rfl)) [(a : Int), 5] rfl ⟨zp_o2 hp, zp_o0 (by omega) (by omega) (by omega) (by omega), trivial⟩ (Nat.le_of_ble_eq_true rfl) ⟨f0, nc, pd, Gm a 14, m23.trans hnc, m29.trans hpd, hwkm, by omega, (show (1 : Int) ≤ 5 by decide)⟩ (fun al hal rns Ps Gs hexts hfrs hoks hcss hpsis => ?_)
                    obtain rfl := List.mem_singleton.mp hal
                    obtain ⟨rfl, hsets, htops⟩ := hpsis
                    have hsets : zs_set 5 a Gm Gs := hsets
                    have htops : ∀ pd' : Nat, Gs a 29 = pd' → pd' = 0 ∨ zbinds (zv Gm a 27 (pd' - 1)) < 5 := htops
                    obtain ⟨nc1, pd1, ncs, pds, c1, c2, c3, c4, c5, c6, c7, c8, c9, c10⟩ := hsets
                    obtain rfl : nc = nc1 := by omega
                    obtain rfl : pd = pd1 := by omega
                    have s24 : Gs a 24 = (b24 : Int) := (zp_nf hfrs hp rfl).trans m24
                    have s25 : Gs a 25 = (b25 : Int) := (zp_nf hfrs hp rfl).trans m25
                    have s27 : Gs a 27 = (b27 : Int) := (zp_nf hfrs hp rfl).trans m27
                    have s28 : Gs a 28 = (b28 : Int) := (zp_nf hfrs hp rfl).trans m28
                    have s13 : Gs a 13 = Gm a 13 := zp_nf hfrs hp rfl
                    have s14 : Gs a 14 = Gm a 14 := zp_nf hfrs hp rfl
                    have s15 : Gs a 15 = Gm a 15 := zp_nf hfrs hp rfl
                    have s16 : Gs a 16 = Gm a 16 := zp_nf hfrs hp rfl
                    have s19 : Gs a 19 = Gm a 19 := zp_nf hfrs hp rfl
                    refine zp_load (pc := 239) hx hb (zd_X12_behindSum (239, .aload_n 0, 1, 0, []) (List.mem_of_getElem? (i := 122) rfl)) rfl (j := 2) rfl ?_
                    refine zp_load (pc := 240) hx hb (zd_X12_behindSum (240, .iload_n 2, 1, 0, []) (List.mem_of_getElem? (i := 123) rfl)) rfl (j := 0) rfl ?_
                    refine zp_const (pc := 241) hx hb (zd_X12_behindSum (241, .iconst 0, 1, 0, []) (List.mem_of_getElem? (i := 124) rfl)) rfl rfl ?_
                    have h400 : Gs a 29 < 400 := by omega
                    refine zp_call (pc := 242) (how := 0) (idx := 307) (mi := 220) (S := []) hx hb hE hw heff hrm (zX_pu hW) rfl (j := 22) rfl rfl (by decide +kernel) (zd_X12_behindSum (242, .invokevirtual 307, 3, 0, []) (List.mem_of_getElem? (i := 125) rfl)) [(a : Int), 25, 0] rfl ⟨zp_o2 hp, zp_o0 (by omega) (by omega) (by omega) (by omega), zp_o0 (by decide) (by decide) (by decide) (by decide), trivial⟩ (Nat.le_of_ble_eq_true rfl) h400 (fun al hal rnp Pp Gp hextp hfrp hokp hcsp hpsip => ?_)
                    obtain rfl := List.mem_singleton.mp hal
                    obtain ⟨rfl, hp1, hp2, hp3⟩ := hpsip
                    have hp1 : Gp a 29 = Gs a 29 + 1 := hp1
                    have hp2 : ∀ j : Nat, zv Gp a 27 j = if j = (Gs a 29).toNat then 25 else zv Gs a 27 j := hp2
                    have hp3 : ∀ j : Nat, zv Gp a 28 j = if j = (Gs a 29).toNat then 0 else zv Gs a 28 j := hp3
                    have p24 : Gp a 24 = (b24 : Int) := (zp_nf hfrp hp rfl).trans s24
                    have p25 : Gp a 25 = (b25 : Int) := (zp_nf hfrp hp rfl).trans s25
                    have p27 : Gp a 27 = (b27 : Int) := (zp_nf hfrp hp rfl).trans s27
                    have p28 : Gp a 28 = (b28 : Int) := (zp_nf hfrp hp rfl).trans s28
                    refine zp_const (pc := 245) hx hb (zd_X12_behindSum (245, .iconst 1, 1, 0, []) (List.mem_of_getElem? (i := 126) rfl)) rfl rfl ?_
                    refine zp_iret (pc := 246) (n := 1) hx hb hE hQ hU5 rfl (by decide) (zd_X12_behindSum (246, .ireturn, 1, 0, []) (List.mem_of_getElem? (i := 127) rfl)) (j := 0) rfl (zp_o0 (by omega) (by omega) (by omega) (by omega)) ?_
                    rw [hps]
                    refine ⟨rfl, by show 1 = 1 ∨ 1 = 2 ∨ 1 = 3 ∨ 1 = 4; decide, fun z => absurd z (by decide), fun z => absurd z (by decide), fun first hz => ⟨fun _ => ?_, fun z => absurd z (by decide), fun z => absurd z (by decide)⟩⟩
                    have hz : zs first 1 1 a (zp_n u.2.1) := hz
                    obtain ⟨-, nc2, pd2, e1, e2, e3⟩ := hz
                    obtain rfl : nc = nc2 := by omega
                    obtain rfl : pd = pd2 := by omega
                    have hns : zi_ns pd (zv (zp_n u.2.1) a 27) := zi_ns_of (e3.2 hmb.2.1).1 hnb
                    have y1 : zs_sp first 1 0 (Gm a 19) (zp_n u.2.1 a 14) nc pd (zv (zp_n u.2.1) a 24) (zv (zp_n u.2.1) a 25) (zv (zp_n u.2.1) a 27) (zv (zp_n u.2.1) a 28) := ⟨e3.1, fun z => ⟨(e3.2 hmb.2.1).1, fun _ => hns, (e3.2 hmb.2.1).2.2⟩⟩
                    rw [← mv24, ← mv25, ← mv27, ← mv28] at y1
                    obtain ⟨y3, y4⟩ := zs_sp_settle y1 c10 c5
                    have l1 : ∀ i, i < pds → zv Gp a 27 i = zv Gm a 27 i := fun i hi => by rw [hp2, c4, Int.toNat_natCast, if_neg (by omega), c8]
                    have l2 : ∀ i, i < pds → zv Gp a 28 i = zv Gm a 28 i := fun i hi => by rw [hp3, c4, Int.toNat_natCast, if_neg (by omega), c9]
                    have l3 : zv Gp a 27 pds = 25 := by rw [hp2, c4, Int.toNat_natCast, if_pos rfl]
                    have y5 := zs_sp_push (pl' := zv Gp a 27) (pa' := zv Gp a 28) y3 hlt l1 l2 (by omega) (by omega) (Or.inr rfl)
                    have p13 : Gp a 13 = Gm a 13 := (zp_nf hfrp hp rfl).trans s13
                    have p14 : Gp a 14 = Gm a 14 := (zp_nf hfrp hp rfl).trans s14
                    have p15 : Gp a 15 = Gm a 15 := (zp_nf hfrp hp rfl).trans s15
                    have p16 : Gp a 16 = Gm a 16 := (zp_nf hfrp hp rfl).trans s16
                    have p19 : Gp a 19 = Gm a 19 := (zp_nf hfrp hp rfl).trans s19
                    have p23 : Gp a 23 = ncs := (zp_nf hfrp hp rfl).trans c3
                    have p29 : Gp a 29 = ((pds + 1 : Nat) : Int) := by rw [hp1, c4]; rfl
                    have pv24 : ∀ j, zv Gp a 24 j = zv Gs a 24 j := fun j => by rw [zv_eq p24, zv_eq s24, zp_nc hfrp hq24 rfl]
                    have pv25 : ∀ j, zv Gp a 25 j = zv Gs a 25 j := fun j => by rw [zv_eq p25, zv_eq s25, zp_nc hfrp hq25 rfl]
                    show zs_go a first 0 1 (zp_n u.2.1) Gp
                    refine ⟨zs_mk y5 (zs_tk_congr htm p13 p14 p15 p16) p23 p29 p19 p14 pv24 pv25 (fun _ => rfl) (fun _ => rfl), fun q hq => ⟨by rw [pv24, (y4 q hq).1, mv24], by rw [pv25, (y4 q hq).2, mv25]⟩, by omega, fun z => ⟨hmb.2.1, by omega⟩⟩
                · refine zp_load (pc := 210) hx hb (zd_X12_behindSum (210, .aload_n 0, 1, 0, []) (List.mem_of_getElem? (i := 108) rfl)) rfl (j := 2) rfl ?_
                  refine zp_const (pc := 211) hx hb (zd_X12_behindSum (211, .bipush 61, 2, 0, []) (List.mem_of_getElem? (i := 109) rfl)) rfl rfl ?_
                  refine zp_call (pc := 213) (how := 0) (idx := 313) (mi := 221) (S := [(2, (a : Int))]) hx hb hE hw heff hrm (zX_si hW) rfl (j := 23) rfl rfl (by decide +kernel) (zd_X12_behindSum (213, .invokevirtual 313, 3, 0, []) (List.mem_of_getElem? (i := 110) rfl)) [(a : Int), 61] rfl ⟨zp_o2 hp, zp_o0 (by decide) (by decide) (by decide) (by decide), trivial⟩ (Nat.le_of_ble_eq_true rfl) trivial (fun al hal rnz Pz Gz hextz hfrz hokz hcsz hpsiz => ?_)
                  obtain rfl := List.mem_singleton.mp hal
                  have hrz := zp_int (hokz _ rfl).1
                  obtain ⟨hPez, hGez, htz⟩ := hpsiz
                  rw [hPez, hGez]
                  have htz : rnz = 1 → zp_n u.2.1 a 16 = 3 := htz
                  refine zp_if (pc := 216) (tgt := 223) hx hb (zd_X12_behindSum (216, .ifCond .eq 7, 3, 0, []) (List.mem_of_getElem? (i := 111) rfl)) rfl (fun (hc116 : rnz = 0) => ?_) (fun (hc116 : ¬ (rnz = 0)) => ?_)
                  · refine zp_const (pc := 223) hx hb (zd_X12_behindSum (223, .iconst 0, 1, 0, []) (List.mem_of_getElem? (i := 114) rfl)) rfl rfl ?_
                    refine zp_call (pc := 224) (how := 0) (idx := 275) (mi := 217) (S := []) hx hb hE hw heff hrm (zX_mu hW) rfl (j := 19) rfl rfl (by decide +kernel) (zd_X12_behindSum (224, .invokevirtual 275, 3, 0, []) (List.mem_of_getElem? (i := 115) rfl)) [(a : Int), 0] rfl ⟨zp_o2 hp, zp_o0 (by omega) (by omega) (by omega) (by omega), trivial⟩ (Nat.le_of_ble_eq_true rfl) htk (fun al hal rnm Pm Gm hextm hfrm hokm hcsm hpsim => ?_)
                    obtain rfl := List.mem_singleton.mp hal
                    obtain ⟨rfl, htm, hmm⟩ := hpsim
                    have htm : zs_tk a Gm := htm
                    have hmm : zs_mu a 0 (zp_n u.2.1) Gm := hmm
                    have htm2 := htm
                    obtain ⟨m1, m2, m3, m4, m5, m6⟩ := htm2
                    have m24 : Gm a 24 = (b24 : Int) := (zp_nf hfrm hp rfl).trans hb24
                    have m25 : Gm a 25 = (b25 : Int) := (zp_nf hfrm hp rfl).trans hb25
                    have m27 : Gm a 27 = (b27 : Int) := (zp_nf hfrm hp rfl).trans hb27
                    have m28 : Gm a 28 = (b28 : Int) := (zp_nf hfrm hp rfl).trans hb28
                    have m13 : Gm a 13 = zp_n u.2.1 a 13 := zp_nf hfrm hp rfl
                    have m23 : Gm a 23 = zp_n u.2.1 a 23 := zp_nf hfrm hp rfl
                    have m29 : Gm a 29 = zp_n u.2.1 a 29 := zp_nf hfrm hp rfl
                    have mv24 : zv Gm a 24 = zv (zp_n u.2.1) a 24 := funext fun j => by rw [zv_eq m24, zv_eq hb24, zp_nc hfrm hq24 rfl]
                    have mv25 : zv Gm a 25 = zv (zp_n u.2.1) a 25 := funext fun j => by rw [zv_eq m25, zv_eq hb25, zp_nc hfrm hq25 rfl]
                    have mv27 : zv Gm a 27 = zv (zp_n u.2.1) a 27 := funext fun j => by rw [zv_eq m27, zv_eq hb27, zp_nc hfrm hq27 rfl]
                    have mv28 : zv Gm a 28 = zv (zp_n u.2.1) a 28 := funext fun j => by rw [zv_eq m28, zv_eq hb28, zp_nc hfrm hq28 rfl]
                    refine zp_load (pc := 227) hx hb (zd_X12_behindSum (227, .aload_n 0, 1, 0, []) (List.mem_of_getElem? (i := 116) rfl)) rfl (j := 2) rfl ?_
                    refine zp_getf (n := (Gm a 19)) (pc := 228) hx hb hE hw (zd_X12_behindSum (228, .getfield 240, 3, 0, []) (List.mem_of_getElem? (i := 117) rfl)) (j := 37) rfl rfl rfl hp rfl ?_
                    refine zp_if (pc := 231) (tgt := 245) hx hb (zd_X12_behindSum (231, .ifCond .ne 14, 3, 0, []) (List.mem_of_getElem? (i := 118) rfl)) rfl (fun (hc117 : ¬ (Gm a 19) = 0) => ?_) (fun (hc117 : ¬ (¬ (Gm a 19) = 0)) => ?_)
                    · refine zp_const (pc := 245) hx hb (zd_X12_behindSum (245, .iconst 1, 1, 0, []) (List.mem_of_getElem? (i := 126) rfl)) rfl rfl ?_
                      refine zp_iret (pc := 246) (n := 1) hx hb hE hQ hU5 rfl (by decide) (zd_X12_behindSum (246, .ireturn, 1, 0, []) (List.mem_of_getElem? (i := 127) rfl)) (j := 0) rfl (zp_o0 (by omega) (by omega) (by omega) (by omega)) ?_
                      rw [hps]
                      refine ⟨rfl, by show 1 = 1 ∨ 1 = 2 ∨ 1 = 3 ∨ 1 = 4; decide, fun z => absurd z (by decide), fun z => absurd z (by decide), fun first hz => ⟨fun _ => ?_, fun z => absurd z (by decide), fun z => absurd z (by decide)⟩⟩
                      have hmb : Gm a 19 = 1 ∧ Gm a 14 = zp_n u.2.1 a 14 := by unfold zs_mu at hmm; omega
                      have hz : zs first 1 1 a (zp_n u.2.1) := hz
                      obtain ⟨-, nc2, pd2, e1, e2, e3⟩ := hz
                      obtain rfl : nc = nc2 := by omega
                      obtain rfl : pd = pd2 := by omega
                      show zs_go a first 0 1 (zp_n u.2.1) Gm
                      refine ⟨zs_mk (bad := Gm a 19) (fr := Gm a 14) (nc := nc) (pd := pd) ⟨?_, fun z => by omega⟩ htm (m23.trans e1) (m29.trans e2) rfl rfl (fun q => by rw [mv24]) (fun q => by rw [mv25]) (fun q => by rw [mv27]) (fun q => by rw [mv28]), fun q _ => ⟨by rw [mv24], by rw [mv25]⟩, by omega, fun z => by omega⟩
                      rw [hmb.2]
                      exact e3.1
                    · exfalso
                      unfold zs_mu at hmm
                      omega
                  · refine zp_const (pc := 219) hx hb (zd_X12_behindSum (219, .iconst 1, 1, 0, []) (List.mem_of_getElem? (i := 112) rfl)) rfl rfl ?_
                    refine zp_goto (tgt := 224) (pc := 220) hx hb (zd_X12_behindSum (220, .goto 4, 3, 0, []) (List.mem_of_getElem? (i := 113) rfl)) rfl ?_
                    refine zp_call (pc := 224) (how := 0) (idx := 275) (mi := 217) (S := []) hx hb hE hw heff hrm (zX_mu hW) rfl (j := 19) rfl rfl (by decide +kernel) (zd_X12_behindSum (224, .invokevirtual 275, 3, 0, []) (List.mem_of_getElem? (i := 115) rfl)) [(a : Int), 1] rfl ⟨zp_o2 hp, zp_o0 (by omega) (by omega) (by omega) (by omega), trivial⟩ (Nat.le_of_ble_eq_true rfl) htk (fun al hal rnm Pm Gm hextm hfrm hokm hcsm hpsim => ?_)
                    obtain rfl := List.mem_singleton.mp hal
                    obtain ⟨rfl, htm, hmm⟩ := hpsim
                    have htm : zs_tk a Gm := htm
                    have hmm : zs_mu a 1 (zp_n u.2.1) Gm := hmm
                    have htm2 := htm
                    obtain ⟨m1, m2, m3, m4, m5, m6⟩ := htm2
                    have m24 : Gm a 24 = (b24 : Int) := (zp_nf hfrm hp rfl).trans hb24
                    have m25 : Gm a 25 = (b25 : Int) := (zp_nf hfrm hp rfl).trans hb25
                    have m27 : Gm a 27 = (b27 : Int) := (zp_nf hfrm hp rfl).trans hb27
                    have m28 : Gm a 28 = (b28 : Int) := (zp_nf hfrm hp rfl).trans hb28
                    have m13 : Gm a 13 = zp_n u.2.1 a 13 := zp_nf hfrm hp rfl
                    have m23 : Gm a 23 = zp_n u.2.1 a 23 := zp_nf hfrm hp rfl
                    have m29 : Gm a 29 = zp_n u.2.1 a 29 := zp_nf hfrm hp rfl
                    have mv24 : zv Gm a 24 = zv (zp_n u.2.1) a 24 := funext fun j => by rw [zv_eq m24, zv_eq hb24, zp_nc hfrm hq24 rfl]
                    have mv25 : zv Gm a 25 = zv (zp_n u.2.1) a 25 := funext fun j => by rw [zv_eq m25, zv_eq hb25, zp_nc hfrm hq25 rfl]
                    have mv27 : zv Gm a 27 = zv (zp_n u.2.1) a 27 := funext fun j => by rw [zv_eq m27, zv_eq hb27, zp_nc hfrm hq27 rfl]
                    have mv28 : zv Gm a 28 = zv (zp_n u.2.1) a 28 := funext fun j => by rw [zv_eq m28, zv_eq hb28, zp_nc hfrm hq28 rfl]
                    refine zp_load (pc := 227) hx hb (zd_X12_behindSum (227, .aload_n 0, 1, 0, []) (List.mem_of_getElem? (i := 116) rfl)) rfl (j := 2) rfl ?_
                    refine zp_getf (n := (Gm a 19)) (pc := 228) hx hb hE hw (zd_X12_behindSum (228, .getfield 240, 3, 0, []) (List.mem_of_getElem? (i := 117) rfl)) (j := 37) rfl rfl rfl hp rfl ?_
                    refine zp_if (pc := 231) (tgt := 245) hx hb (zd_X12_behindSum (231, .ifCond .ne 14, 3, 0, []) (List.mem_of_getElem? (i := 118) rfl)) rfl (fun (hc118 : ¬ (Gm a 19) = 0) => ?_) (fun (hc118 : ¬ (¬ (Gm a 19) = 0)) => ?_)
                    · refine zp_const (pc := 245) hx hb (zd_X12_behindSum (245, .iconst 1, 1, 0, []) (List.mem_of_getElem? (i := 126) rfl)) rfl rfl ?_
                      refine zp_iret (pc := 246) (n := 1) hx hb hE hQ hU5 rfl (by decide) (zd_X12_behindSum (246, .ireturn, 1, 0, []) (List.mem_of_getElem? (i := 127) rfl)) (j := 0) rfl (zp_o0 (by omega) (by omega) (by omega) (by omega)) ?_
                      rw [hps]
                      refine ⟨rfl, by show 1 = 1 ∨ 1 = 2 ∨ 1 = 3 ∨ 1 = 4; decide, fun z => absurd z (by decide), fun z => absurd z (by decide), fun first hz => ⟨fun _ => ?_, fun z => absurd z (by decide), fun z => absurd z (by decide)⟩⟩
                      have hmb : Gm a 19 = 1 ∧ Gm a 14 = zp_n u.2.1 a 14 := by unfold zs_mu at hmm; omega
                      have hz : zs first 1 1 a (zp_n u.2.1) := hz
                      obtain ⟨-, nc2, pd2, e1, e2, e3⟩ := hz
                      obtain rfl : nc = nc2 := by omega
                      obtain rfl : pd = pd2 := by omega
                      show zs_go a first 0 1 (zp_n u.2.1) Gm
                      refine ⟨zs_mk (bad := Gm a 19) (fr := Gm a 14) (nc := nc) (pd := pd) ⟨?_, fun z => by omega⟩ htm (m23.trans e1) (m29.trans e2) rfl rfl (fun q => by rw [mv24]) (fun q => by rw [mv25]) (fun q => by rw [mv27]) (fun q => by rw [mv28]), fun q _ => ⟨by rw [mv24], by rw [mv25]⟩, by omega, fun z => by omega⟩
                      rw [hmb.2]
                      exact e3.1
                    · refine zp_load (pc := 234) hx hb (zd_X12_behindSum (234, .aload_n 0, 1, 0, []) (List.mem_of_getElem? (i := 119) rfl)) rfl (j := 2) rfl ?_
                      refine zp_const (pc := 235) hx hb (zd_X12_behindSum (235, .iconst 5, 1, 0, []) (List.mem_of_getElem? (i := 120) rfl)) rfl rfl ?_
                      have hmb : Gm a 19 = 0 ∧ zp_n u.2.1 a 19 = 0 ∧ 1 = 1 ∧ zp_n u.2.1 a 15 ≤ Gm a 14 := by unfold zs_mu at hmm; omega
                      have hlt : zp_n u.2.1 a 14 + 1 ≤ Gm a 14 := by have := t6 (by omega); omega
                      have hwkm : zi_wk f0 nc pd (Gm a 14) (zv Gm a 27) (zv Gm a 28) := by rw [mv27, mv28]; exact zi_wk_le hsp (by omega)
                      refine zp_call (pc := 236) (how := 0) (idx := 344) (mi := 231) (S := []) hx hb hE hw heff hrm (zX_se hW) rfl (j := 33) rfl rfl (by decide +kernel) (zd_X12_behindSum (236, .invokevirtual 344, 3, 0, []) (List.mem_of_getElem? (i := 121) rfl)) [(a : Int), 5] rfl ⟨zp_o2 hp, zp_o0 (by omega) (by omega) (by omega) (by omega), trivial⟩ (Nat.le_of_ble_eq_true rfl) ⟨f0, nc, pd, Gm a 14, m23.trans hnc, m29.trans hpd, hwkm, by omega, (show (1 : Int) ≤ 5 by decide)⟩ (fun al hal rns Ps Gs hexts hfrs hoks hcss hpsis => ?_)
                      obtain rfl := List.mem_singleton.mp hal
                      obtain ⟨rfl, hsets, htops⟩ := hpsis
                      have hsets : zs_set 5 a Gm Gs := hsets
                      have htops : ∀ pd' : Nat, Gs a 29 = pd' → pd' = 0 ∨ zbinds (zv Gm a 27 (pd' - 1)) < 5 := htops
                      obtain ⟨nc1, pd1, ncs, pds, c1, c2, c3, c4, c5, c6, c7, c8, c9, c10⟩ := hsets
                      obtain rfl : nc = nc1 := by omega
                      obtain rfl : pd = pd1 := by omega
                      have s24 : Gs a 24 = (b24 : Int) := (zp_nf hfrs hp rfl).trans m24
                      have s25 : Gs a 25 = (b25 : Int) := (zp_nf hfrs hp rfl).trans m25
                      have s27 : Gs a 27 = (b27 : Int) := (zp_nf hfrs hp rfl).trans m27
                      have s28 : Gs a 28 = (b28 : Int) := (zp_nf hfrs hp rfl).trans m28
                      have s13 : Gs a 13 = Gm a 13 := zp_nf hfrs hp rfl
                      have s14 : Gs a 14 = Gm a 14 := zp_nf hfrs hp rfl
                      have s15 : Gs a 15 = Gm a 15 := zp_nf hfrs hp rfl
                      have s16 : Gs a 16 = Gm a 16 := zp_nf hfrs hp rfl
                      have s19 : Gs a 19 = Gm a 19 := zp_nf hfrs hp rfl
                      refine zp_load (pc := 239) hx hb (zd_X12_behindSum (239, .aload_n 0, 1, 0, []) (List.mem_of_getElem? (i := 122) rfl)) rfl (j := 2) rfl ?_
                      refine zp_load (pc := 240) hx hb (zd_X12_behindSum (240, .iload_n 2, 1, 0, []) (List.mem_of_getElem? (i := 123) rfl)) rfl (j := 0) rfl ?_
                      refine zp_const (pc := 241) hx hb (zd_X12_behindSum (241, .iconst 0, 1, 0, []) (List.mem_of_getElem? (i := 124) rfl)) rfl rfl ?_
                      have h400 : Gs a 29 < 400 := by omega
                      refine zp_call (pc := 242) (how := 0) (idx := 307) (mi := 220) (S := []) hx hb hE hw heff hrm (zX_pu hW) rfl (j := 22) rfl rfl (by decide +kernel) (zd_X12_behindSum (242, .invokevirtual 307, 3, 0, []) (List.mem_of_getElem? (i := 125) rfl)) [(a : Int), 25, 0] rfl ⟨zp_o2 hp, zp_o0 (by omega) (by omega) (by omega) (by omega), zp_o0 (by decide) (by decide) (by decide) (by decide), trivial⟩ (Nat.le_of_ble_eq_true rfl) h400 (fun al hal rnp Pp Gp hextp hfrp hokp hcsp hpsip => ?_)
                      obtain rfl := List.mem_singleton.mp hal
                      obtain ⟨rfl, hp1, hp2, hp3⟩ := hpsip
                      have hp1 : Gp a 29 = Gs a 29 + 1 := hp1
                      have hp2 : ∀ j : Nat, zv Gp a 27 j = if j = (Gs a 29).toNat then 25 else zv Gs a 27 j := hp2
                      have hp3 : ∀ j : Nat, zv Gp a 28 j = if j = (Gs a 29).toNat then 0 else zv Gs a 28 j := hp3
                      have p24 : Gp a 24 = (b24 : Int) := (zp_nf hfrp hp rfl).trans s24
                      have p25 : Gp a 25 = (b25 : Int) := (zp_nf hfrp hp rfl).trans s25
                      have p27 : Gp a 27 = (b27 : Int) := (zp_nf hfrp hp rfl).trans s27
                      have p28 : Gp a 28 = (b28 : Int) := (zp_nf hfrp hp rfl).trans s28
                      refine zp_const (pc := 245) hx hb (zd_X12_behindSum (245, .iconst 1, 1, 0, []) (List.mem_of_getElem? (i := 126) rfl)) rfl rfl ?_
                      refine zp_iret (pc := 246) (n := 1) hx hb hE hQ hU5 rfl (by decide) (zd_X12_behindSum (246, .ireturn, 1, 0, []) (List.mem_of_getElem? (i := 127) rfl)) (j := 0) rfl (zp_o0 (by omega) (by omega) (by omega) (by omega)) ?_
                      rw [hps]
                      refine ⟨rfl, by show 1 = 1 ∨ 1 = 2 ∨ 1 = 3 ∨ 1 = 4; decide, fun z => absurd z (by decide), fun z => absurd z (by decide), fun first hz => ⟨fun _ => ?_, fun z => absurd z (by decide), fun z => absurd z (by decide)⟩⟩
                      have hz : zs first 1 1 a (zp_n u.2.1) := hz
                      obtain ⟨-, nc2, pd2, e1, e2, e3⟩ := hz
                      obtain rfl : nc = nc2 := by omega
                      obtain rfl : pd = pd2 := by omega
                      have hns : zi_ns pd (zv (zp_n u.2.1) a 27) := zi_ns_of (e3.2 hmb.2.1).1 hnb
                      have y1 : zs_sp first 1 0 (Gm a 19) (zp_n u.2.1 a 14) nc pd (zv (zp_n u.2.1) a 24) (zv (zp_n u.2.1) a 25) (zv (zp_n u.2.1) a 27) (zv (zp_n u.2.1) a 28) := ⟨e3.1, fun z => ⟨(e3.2 hmb.2.1).1, fun _ => hns, (e3.2 hmb.2.1).2.2⟩⟩
                      rw [← mv24, ← mv25, ← mv27, ← mv28] at y1
                      obtain ⟨y3, y4⟩ := zs_sp_settle y1 c10 c5
                      have l1 : ∀ i, i < pds → zv Gp a 27 i = zv Gm a 27 i := fun i hi => by rw [hp2, c4, Int.toNat_natCast, if_neg (by omega), c8]
                      have l2 : ∀ i, i < pds → zv Gp a 28 i = zv Gm a 28 i := fun i hi => by rw [hp3, c4, Int.toNat_natCast, if_neg (by omega), c9]
                      have l3 : zv Gp a 27 pds = 25 := by rw [hp2, c4, Int.toNat_natCast, if_pos rfl]
                      have y5 := zs_sp_push (pl' := zv Gp a 27) (pa' := zv Gp a 28) y3 hlt l1 l2 (by omega) (by omega) (Or.inr rfl)
                      have p13 : Gp a 13 = Gm a 13 := (zp_nf hfrp hp rfl).trans s13
                      have p14 : Gp a 14 = Gm a 14 := (zp_nf hfrp hp rfl).trans s14
                      have p15 : Gp a 15 = Gm a 15 := (zp_nf hfrp hp rfl).trans s15
                      have p16 : Gp a 16 = Gm a 16 := (zp_nf hfrp hp rfl).trans s16
                      have p19 : Gp a 19 = Gm a 19 := (zp_nf hfrp hp rfl).trans s19
                      have p23 : Gp a 23 = ncs := (zp_nf hfrp hp rfl).trans c3
                      have p29 : Gp a 29 = ((pds + 1 : Nat) : Int) := by rw [hp1, c4]; rfl
                      have pv24 : ∀ j, zv Gp a 24 j = zv Gs a 24 j := fun j => by rw [zv_eq p24, zv_eq s24, zp_nc hfrp hq24 rfl]
                      have pv25 : ∀ j, zv Gp a 25 j = zv Gs a 25 j := fun j => by rw [zv_eq p25, zv_eq s25, zp_nc hfrp hq25 rfl]
                      show zs_go a first 0 1 (zp_n u.2.1) Gp
                      refine ⟨zs_mk y5 (zs_tk_congr htm p13 p14 p15 p16) p23 p29 p19 p14 pv24 pv25 (fun _ => rfl) (fun _ => rfl), fun q hq => ⟨by rw [pv24, (y4 q hq).1, mv24], by rw [pv25, (y4 q hq).2, mv25]⟩, by omega, fun z => ⟨hmb.2.1, by omega⟩⟩
            · refine zp_const (pc := 170) hx hb (zd_X12_behindSum (170, .iconst 2, 1, 0, []) (List.mem_of_getElem? (i := 88) rfl)) rfl rfl ?_
              refine zp_iret (pc := 171) (n := 2) hx hb hE hQ hU5 rfl (by decide) (zd_X12_behindSum (171, .ireturn, 1, 0, []) (List.mem_of_getElem? (i := 89) rfl)) (j := 0) rfl (zp_o0 (by omega) (by omega) (by omega) (by omega)) ?_
              rw [hps]
              refine ⟨rfl, by show 2 = 1 ∨ 2 = 2 ∨ 2 = 3 ∨ 2 = 4; decide, fun _ => rfl, fun z => absurd z (by decide), fun first hz => ⟨fun z => absurd z (by decide), fun z => absurd z (by decide), fun _ hb0 => ?_⟩⟩
              have hz : zs first 1 1 a (zp_n u.2.1) := hz
              obtain ⟨-, nc2, pd2, e1, e2, e3⟩ := hz
              obtain rfl : nc = nc2 := by omega
              obtain rfl : pd = pd2 := by omega
              show zs first 1 0 a (zp_n u.2.1)
              have hb0 : zp_n u.2.1 a 19 = 0 := hb0
              exact ⟨htk, nc, pd, e1, e2, e3.1, fun z => ⟨(e3.2 hb0).1, fun _ => zi_ns_of (e3.2 hb0).1 hnb, (e3.2 hb0).2.2⟩⟩
          · refine zp_const (pc := 161) hx hb (zd_X12_behindSum (161, .iconst 4, 1, 0, []) (List.mem_of_getElem? (i := 83) rfl)) rfl rfl ?_
            refine zp_iret (pc := 162) (n := 4) hx hb hE hQ hU5 rfl (by decide) (zd_X12_behindSum (162, .ireturn, 1, 0, []) (List.mem_of_getElem? (i := 84) rfl)) (j := 0) rfl (zp_o0 (by omega) (by omega) (by omega) (by omega)) ?_
            rw [hps]
            refine ⟨rfl, by show 4 = 1 ∨ 4 = 2 ∨ 4 = 3 ∨ 4 = 4; decide, fun z => absurd z (by decide), fun _ => ⟨rfl, ?_⟩, fun first hz => ⟨fun z => absurd z (by decide), fun z => absurd z (by decide), fun z => absurd z (by decide)⟩⟩
            show ∀ i : Nat, (i : Int) < zp_n u.2.1 a 29 → zv (zp_n u.2.1) a 27 i < 31
            rcases hti with ⟨h1, h2⟩ | ⟨i, h1, h2, h3, h4⟩
            · exact h2
            · omega
      · refine zp_load (pc := 108) hx hb (zd_X12_behindSum (108, .aload_n 0, 1, 0, []) (List.mem_of_getElem? (i := 53) rfl)) rfl (j := 2) rfl ?_
        refine zp_load (pc := 109) hx hb (zd_X12_behindSum (109, .aload_n 0, 1, 0, []) (List.mem_of_getElem? (i := 54) rfl)) rfl (j := 2) rfl ?_
        refine zp_const (pc := 110) hx hb (zd_X12_behindSum (110, .bipush 93, 2, 0, []) (List.mem_of_getElem? (i := 55) rfl)) rfl rfl ?_
        refine zp_call (pc := 112) (how := 0) (idx := 313) (mi := 221) (S := [(2, (a : Int))]) hx hb hE hw heff hrm (zX_si hW) rfl (j := 23) rfl rfl (by decide +kernel) (zd_X12_behindSum (112, .invokevirtual 313, 3, 0, []) (List.mem_of_getElem? (i := 56) rfl)) [(a : Int), 93] rfl ⟨zp_o2 hp, zp_o0 (by decide) (by decide) (by decide) (by decide), trivial⟩ (Nat.le_of_ble_eq_true rfl) trivial (fun al hal rnx Px Gx hextx hfrx hokx hcsx hpsix => ?_)
        obtain rfl := List.mem_singleton.mp hal
        have hrx := zp_int (hokx _ rfl).1
        obtain ⟨hPex, hGex, htx⟩ := hpsix
        rw [hPex, hGex]
        have htx : rnx = 1 → zp_n u.2.1 a 16 = 3 := htx
        refine zp_call (pc := 115) (how := 0) (idx := 275) (mi := 217) (S := []) hx hb hE hw heff hrm (zX_mu hW) rfl (j := 19) rfl rfl (by decide +kernel) (zd_X12_behindSum (115, .invokevirtual 275, 3, 0, []) (List.mem_of_getElem? (i := 57) rfl)) [(a : Int), rnx] rfl ⟨zp_o2 hp, zp_o0 (by omega) (by omega) (by omega) (by omega), trivial⟩ (Nat.le_of_ble_eq_true rfl) htk (fun al hal rnm Pm Gm hextm hfrm hokm hcsm hpsim => ?_)
        obtain rfl := List.mem_singleton.mp hal
        obtain ⟨rfl, htm, hmm⟩ := hpsim
        have htm : zs_tk a Gm := htm
        have hmm : zs_mu a rnx (zp_n u.2.1) Gm := hmm
        have htm2 := htm
        obtain ⟨m1, m2, m3, m4, m5, m6⟩ := htm2
        have m24 : Gm a 24 = (b24 : Int) := (zp_nf hfrm hp rfl).trans hb24
        have m25 : Gm a 25 = (b25 : Int) := (zp_nf hfrm hp rfl).trans hb25
        have m27 : Gm a 27 = (b27 : Int) := (zp_nf hfrm hp rfl).trans hb27
        have m28 : Gm a 28 = (b28 : Int) := (zp_nf hfrm hp rfl).trans hb28
        have m13 : Gm a 13 = zp_n u.2.1 a 13 := zp_nf hfrm hp rfl
        have m23 : Gm a 23 = zp_n u.2.1 a 23 := zp_nf hfrm hp rfl
        have m29 : Gm a 29 = zp_n u.2.1 a 29 := zp_nf hfrm hp rfl
        have mv24 : zv Gm a 24 = zv (zp_n u.2.1) a 24 := funext fun j => by rw [zv_eq m24, zv_eq hb24, zp_nc hfrm hq24 rfl]
        have mv25 : zv Gm a 25 = zv (zp_n u.2.1) a 25 := funext fun j => by rw [zv_eq m25, zv_eq hb25, zp_nc hfrm hq25 rfl]
        have mv27 : zv Gm a 27 = zv (zp_n u.2.1) a 27 := funext fun j => by rw [zv_eq m27, zv_eq hb27, zp_nc hfrm hq27 rfl]
        have mv28 : zv Gm a 28 = zv (zp_n u.2.1) a 28 := funext fun j => by rw [zv_eq m28, zv_eq hb28, zp_nc hfrm hq28 rfl]
        refine zp_load (pc := 118) hx hb (zd_X12_behindSum (118, .aload_n 0, 1, 0, []) (List.mem_of_getElem? (i := 58) rfl)) rfl (j := 2) rfl ?_
        refine zp_getf (n := (Gm a 19)) (pc := 119) hx hb hE hw (zd_X12_behindSum (119, .getfield 240, 3, 0, []) (List.mem_of_getElem? (i := 59) rfl)) (j := 37) rfl rfl rfl hp rfl ?_
        refine zp_if (pc := 122) (tgt := 150) hx hb (zd_X12_behindSum (122, .ifCond .ne 28, 3, 0, []) (List.mem_of_getElem? (i := 60) rfl)) rfl (fun (hc119 : ¬ (Gm a 19) = 0) => ?_) (fun (hc119 : ¬ (¬ (Gm a 19) = 0)) => ?_)
        · refine zp_const (pc := 150) hx hb (zd_X12_behindSum (150, .iconst 3, 1, 0, []) (List.mem_of_getElem? (i := 76) rfl)) rfl rfl ?_
          refine zp_iret (pc := 151) (n := 3) hx hb hE hQ hU5 rfl (by decide) (zd_X12_behindSum (151, .ireturn, 1, 0, []) (List.mem_of_getElem? (i := 77) rfl)) (j := 0) rfl (zp_o0 (by omega) (by omega) (by omega) (by omega)) ?_
          rw [hps]
          refine ⟨rfl, by show 3 = 1 ∨ 3 = 2 ∨ 3 = 3 ∨ 3 = 4; decide, fun z => absurd z (by decide), fun z => absurd z (by decide), fun first hz => ⟨fun z => absurd z (by decide), fun _ => ?_, fun z => absurd z (by decide)⟩⟩
          have hmb : Gm a 19 = 1 ∧ Gm a 14 = zp_n u.2.1 a 14 := by unfold zs_mu at hmm; omega
          have hz : zs first 1 1 a (zp_n u.2.1) := hz
          obtain ⟨-, nc2, pd2, e1, e2, e3⟩ := hz
          obtain rfl : nc = nc2 := by omega
          obtain rfl : pd = pd2 := by omega
          show zs_go a first 1 1 (zp_n u.2.1) Gm
          refine ⟨zs_mk (bad := Gm a 19) (fr := Gm a 14) (nc := nc) (pd := pd) ⟨?_, fun z => by omega⟩ htm (m23.trans e1) (m29.trans e2) rfl rfl (fun q => by rw [mv24]) (fun q => by rw [mv25]) (fun q => by rw [mv27]) (fun q => by rw [mv28]), fun q _ => ⟨by rw [mv24], by rw [mv25]⟩, by omega, fun z => by omega⟩
          rw [hmb.2]
          exact e3.1
        · refine zp_load (pc := 125) hx hb (zd_X12_behindSum (125, .aload_n 0, 1, 0, []) (List.mem_of_getElem? (i := 61) rfl)) rfl (j := 2) rfl ?_
          refine zp_const (pc := 126) hx hb (zd_X12_behindSum (126, .iconst 5, 1, 0, []) (List.mem_of_getElem? (i := 62) rfl)) rfl rfl ?_
          have hmb : Gm a 19 = 0 ∧ zp_n u.2.1 a 19 = 0 ∧ rnx = 1 ∧ zp_n u.2.1 a 15 ≤ Gm a 14 := by unfold zs_mu at hmm; omega
          have hlt : zp_n u.2.1 a 14 + 1 ≤ Gm a 14 := by have := t6 (by omega); omega
          have hwkm : zi_wk f0 nc pd (Gm a 14) (zv Gm a 27) (zv Gm a 28) := by rw [mv27, mv28]; exact zi_wk_le hsp (by omega)
          refine zp_call (pc := 127) (how := 0) (idx := 344) (mi := 231) (S := []) hx hb hE hw heff hrm (zX_se hW) rfl (j := 33) rfl rfl (by decide +kernel) (zd_X12_behindSum (127, .invokevirtual 344, 3, 0, []) (List.mem_of_getElem? (i := 63) rfl)) [(a : Int), 5] rfl ⟨zp_o2 hp, zp_o0 (by omega) (by omega) (by omega) (by omega), trivial⟩ (Nat.le_of_ble_eq_true rfl) ⟨f0, nc, pd, Gm a 14, m23.trans hnc, m29.trans hpd, hwkm, by omega, (show (1 : Int) ≤ 5 by decide)⟩ (fun al hal rns Ps Gs hexts hfrs hoks hcss hpsis => ?_)
          obtain rfl := List.mem_singleton.mp hal
          obtain ⟨rfl, hsets, htops⟩ := hpsis
          have hsets : zs_set 5 a Gm Gs := hsets
          have htops : ∀ pd' : Nat, Gs a 29 = pd' → pd' = 0 ∨ zbinds (zv Gm a 27 (pd' - 1)) < 5 := htops
          obtain ⟨nc1, pd1, ncs, pds, c1, c2, c3, c4, c5, c6, c7, c8, c9, c10⟩ := hsets
          obtain rfl : nc = nc1 := by omega
          obtain rfl : pd = pd1 := by omega
          have s24 : Gs a 24 = (b24 : Int) := (zp_nf hfrs hp rfl).trans m24
          have s25 : Gs a 25 = (b25 : Int) := (zp_nf hfrs hp rfl).trans m25
          have s27 : Gs a 27 = (b27 : Int) := (zp_nf hfrs hp rfl).trans m27
          have s28 : Gs a 28 = (b28 : Int) := (zp_nf hfrs hp rfl).trans m28
          have s13 : Gs a 13 = Gm a 13 := zp_nf hfrs hp rfl
          have s14 : Gs a 14 = Gm a 14 := zp_nf hfrs hp rfl
          have s15 : Gs a 15 = Gm a 15 := zp_nf hfrs hp rfl
          have s16 : Gs a 16 = Gm a 16 := zp_nf hfrs hp rfl
          have s19 : Gs a 19 = Gm a 19 := zp_nf hfrs hp rfl
          have hT : ∃ i : Nat, i < pd ∧ zv Gm a 27 i = 32 ∧ ∀ j : Nat, i < j → j < pd → zv Gm a 27 j < 31 := by
            rw [mv27]
            rcases hti with ⟨h1, -⟩ | ⟨i, h1, h2, -, h4⟩
            · omega
            · exact ⟨i, by omega, by omega, fun j h5 h6 => h4 j h5 (by omega)⟩
          obtain ⟨k9, i1, i2, i3⟩ := hT
          have hk9 : k9 < pds := c7 k9 i1 (by rw [i2]; decide)
          have hpk : pds = k9 + 1 := zi_top32 (pl := zv Gm a 27) (by rw [mv27]; exact (hsq hmb.2.1).1) i1 i2 i3 c5 hk9 (htops pds c4)
          have htp : 31 ≤ zv Gm a 27 k9 := by omega
          have c4n : Gs a 29 = (k9 : Int) + 1 := by omega
          refine zp_kn (k := 30) (a := a) (G := Gs) hw (show zp_fd 92 30 = some (12, 0, 0, (-2147483648), 2147483647) from rfl) rfl hp (fun hk30 => ?_)
          have hx30 := zp_int hk30
          refine zp_load (pc := 130) hx hb (zd_X12_behindSum (130, .aload_n 0, 1, 0, []) (List.mem_of_getElem? (i := 64) rfl)) rfl (j := 2) rfl ?_
          refine zp_dup (pc := 131) hx hb (zd_X12_behindSum (131, .dup, 1, 0, []) (List.mem_of_getElem? (i := 65) rfl)) (show (2 : Nat) ≠ 1 by decide) ?_
          refine zp_getf (n := ((k9 : Int) + 1)) (pc := 132) hx hb hE hw (zd_X12_behindSum (132, .getfield 282, 3, 0, []) (List.mem_of_getElem? (i := 66) rfl)) (j := 47) rfl rfl rfl hp c4n ?_
          refine zp_const (pc := 135) hx hb (zd_X12_behindSum (135, .iconst 1, 1, 0, []) (List.mem_of_getElem? (i := 67) rfl)) rfl rfl ?_
          refine zp_sub (n := (k9 : Int)) (pc := 136) hx hb (zd_X12_behindSum (136, .isub, 1, 0, []) (List.mem_of_getElem? (i := 68) rfl)) (by omega) (zp_r0 (by omega) (by omega)) ?_
          refine zp_putf (pc := 137) hx hb hE hw heff (zd_X12_behindSum (137, .putfield 282, 3, 0, []) (List.mem_of_getElem? (i := 69) rfl)) (j := 47) rfl rfl rfl hp (zp_o0 (by omega) (by omega) (by omega) (by omega)) ?_
          refine zp_load (pc := 140) hx hb (zd_X12_behindSum (140, .aload_n 0, 1, 0, []) (List.mem_of_getElem? (i := 70) rfl)) rfl (j := 2) rfl ?_
          refine zp_dup (pc := 141) hx hb (zd_X12_behindSum (141, .dup, 1, 0, []) (List.mem_of_getElem? (i := 71) rfl)) (show (2 : Nat) ≠ 1 by decide) ?_
          refine zp_getf (n := (Gs a 30)) (pc := 142) hx hb hE hw (zd_X12_behindSum (142, .getfield 304, 3, 0, []) (List.mem_of_getElem? (i := 72) rfl)) (j := 48) rfl rfl rfl hp ((zp_set_ne (Or.inr (by decide)))) ?_
          refine zp_const (pc := 145) hx hb (zd_X12_behindSum (145, .iconst 1, 1, 0, []) (List.mem_of_getElem? (i := 73) rfl)) rfl rfl ?_
          refine zp_bin (o := 1) (la := -2147483648) (ha := 2147483647) (lb := -2147483648) (hb' := 2147483647) (pc := 146) hx hb (zd_X12_behindSum (146, .isub, 1, 0, []) (List.mem_of_getElem? (i := 74) rfl)) rfl (fun h => absurd h (by decide)) (by omega) (by omega) (by omega) (by omega) (fun x120 r_x120 _ _ => ?_)
          have i_x120 := zp_rg0 r_x120
          refine zp_putf (pc := 147) hx hb hE hw heff (zd_X12_behindSum (147, .putfield 304, 3, 0, []) (List.mem_of_getElem? (i := 75) rfl)) (j := 48) rfl rfl rfl hp (zp_o0 (by omega) (by omega) (by omega) (by omega)) ?_
          refine zp_const (pc := 150) hx hb (zd_X12_behindSum (150, .iconst 3, 1, 0, []) (List.mem_of_getElem? (i := 76) rfl)) rfl rfl ?_
          refine zp_iret (pc := 151) (n := 3) hx hb hE hQ hU5 rfl (by decide) (zd_X12_behindSum (151, .ireturn, 1, 0, []) (List.mem_of_getElem? (i := 77) rfl)) (j := 0) rfl (zp_o0 (by omega) (by omega) (by omega) (by omega)) ?_
          rw [hps]
          refine ⟨rfl, by show 3 = 1 ∨ 3 = 2 ∨ 3 = 3 ∨ 3 = 4; decide, fun z => absurd z (by decide), fun z => absurd z (by decide), fun first hz => ⟨fun z => absurd z (by decide), fun _ => ?_, fun z => absurd z (by decide)⟩⟩
          have hz : zs first 1 1 a (zp_n u.2.1) := hz
          obtain ⟨-, nc2, pd2, e1, e2, e3⟩ := hz
          obtain rfl : nc = nc2 := by omega
          obtain rfl : pd = pd2 := by omega
          have y1 := zs_sp_le e3 (fr' := Gm a 14) (bad' := Gm a 19) (by omega) (fun _ => hmb.2.1)
          rw [← mv24, ← mv25, ← mv27, ← mv28] at y1
          obtain ⟨y3, y4⟩ := zs_sp_settle y1 c10 c5
          rw [hpk] at y3
          have x13 : (zp_set (zp_set Gs a 29 (k9 : Int)) a 30 x120) a 13 = Gs a 13 := (zp_set_ne (Or.inr (by decide))).trans (zp_set_ne (Or.inr (by decide)))
          have x14 : (zp_set (zp_set Gs a 29 (k9 : Int)) a 30 x120) a 14 = Gs a 14 := (zp_set_ne (Or.inr (by decide))).trans (zp_set_ne (Or.inr (by decide)))
          have x15 : (zp_set (zp_set Gs a 29 (k9 : Int)) a 30 x120) a 15 = Gs a 15 := (zp_set_ne (Or.inr (by decide))).trans (zp_set_ne (Or.inr (by decide)))
          have x16 : (zp_set (zp_set Gs a 29 (k9 : Int)) a 30 x120) a 16 = Gs a 16 := (zp_set_ne (Or.inr (by decide))).trans (zp_set_ne (Or.inr (by decide)))
          have x19 : (zp_set (zp_set Gs a 29 (k9 : Int)) a 30 x120) a 19 = Gs a 19 := (zp_set_ne (Or.inr (by decide))).trans (zp_set_ne (Or.inr (by decide)))
          have x23 : (zp_set (zp_set Gs a 29 (k9 : Int)) a 30 x120) a 23 = Gs a 23 := (zp_set_ne (Or.inr (by decide))).trans (zp_set_ne (Or.inr (by decide)))
          have x24 : (zp_set (zp_set Gs a 29 (k9 : Int)) a 30 x120) a 24 = Gs a 24 := (zp_set_ne (Or.inr (by decide))).trans (zp_set_ne (Or.inr (by decide)))
          have x25 : (zp_set (zp_set Gs a 29 (k9 : Int)) a 30 x120) a 25 = Gs a 25 := (zp_set_ne (Or.inr (by decide))).trans (zp_set_ne (Or.inr (by decide)))
          have x27 : (zp_set (zp_set Gs a 29 (k9 : Int)) a 30 x120) a 27 = Gs a 27 := (zp_set_ne (Or.inr (by decide))).trans (zp_set_ne (Or.inr (by decide)))
          have x28 : (zp_set (zp_set Gs a 29 (k9 : Int)) a 30 x120) a 28 = Gs a 28 := (zp_set_ne (Or.inr (by decide))).trans (zp_set_ne (Or.inr (by decide)))
          have x29 : (zp_set (zp_set Gs a 29 (k9 : Int)) a 30 x120) a 29 = (k9 : Int) := ((zp_set_ne (Or.inr (by decide))).trans (zp_set_self))
          have xv24 : ∀ j, zv (zp_set (zp_set Gs a 29 (k9 : Int)) a 30 x120) a 24 j = zv Gs a 24 j := fun j => by rw [zv_eq (x24.trans s24), zv_eq s24, zp_set_ne (Or.inl (zp_pne hq24 hp (by decide))), zp_set_ne (Or.inl (zp_pne hq24 hp (by decide)))]
          have xv25 : ∀ j, zv (zp_set (zp_set Gs a 29 (k9 : Int)) a 30 x120) a 25 j = zv Gs a 25 j := fun j => by rw [zv_eq (x25.trans s25), zv_eq s25, zp_set_ne (Or.inl (zp_pne hq25 hp (by decide))), zp_set_ne (Or.inl (zp_pne hq25 hp (by decide)))]
          have xv27 : ∀ j, zv (zp_set (zp_set Gs a 29 (k9 : Int)) a 30 x120) a 27 j = zv Gs a 27 j := fun j => by rw [zv_eq (x27.trans s27), zv_eq s27, zp_set_ne (Or.inl (zp_pne hq27 hp (by decide))), zp_set_ne (Or.inl (zp_pne hq27 hp (by decide)))]
          have xv28 : ∀ j, zv (zp_set (zp_set Gs a 29 (k9 : Int)) a 30 x120) a 28 j = zv Gs a 28 j := fun j => by rw [zv_eq (x28.trans s28), zv_eq s28, zp_set_ne (Or.inl (zp_pne hq28 hp (by decide))), zp_set_ne (Or.inl (zp_pne hq28 hp (by decide)))]
          show zs_go a first 1 1 (zp_n u.2.1) (zp_set (zp_set Gs a 29 (k9 : Int)) a 30 x120)
          refine ⟨zs_mk (zs_sp_popb y3 htp) (zs_tk_congr htm (x13.trans s13) (x14.trans s14) (x15.trans s15) (x16.trans s16)) (x23.trans c3) x29 (x19.trans s19) (x14.trans s14) xv24 xv25 (fun q => (xv27 q).trans (c8 q)) (fun q => (xv28 q).trans (c9 q)), fun q hq => ?_, ?_, fun _ => ⟨hmb.2.1, ?_⟩⟩
          · rw [xv24, xv25, (y4 q hq).1, (y4 q hq).2, mv24, mv25]; exact ⟨rfl, rfl⟩
          · rw [x14, s14]; omega
          · rw [x14, s14]; omega
    · refine zp_load (pc := 77) hx hb (zd_X12_behindSum (77, .aload_n 0, 1, 0, []) (List.mem_of_getElem? (i := 35) rfl)) rfl (j := 1) rfl ?_
      refine zp_load (pc := 78) hx hb (zd_X12_behindSum (78, .iload_n 2, 1, 0, []) (List.mem_of_getElem? (i := 36) rfl)) rfl (j := 0) rfl ?_
      refine zp_call (pc := 79) (how := 1) (idx := 285) (mi := 230) (S := [(2, (a : Int))]) hx hb hE hw heff hrm (zX_bi hW) rfl (j := 32) rfl rfl (by decide +kernel) (zd_X12_behindSum (79, .invokestatic 285, 3, 0, []) (List.mem_of_getElem? (i := 37) rfl)) [op] rfl ⟨zp_o0 (by omega) (by omega) (by omega) (by omega), trivial⟩ (Nat.le_of_ble_eq_true rfl) trivial (fun al hal rnb Pb Gb hextb hfrb hokb hcsb hpsib => ?_)
      obtain rfl := List.mem_singleton.mp hal
      have hrb := zp_int (hokb _ rfl).1
      obtain ⟨hPeb, hGeb, htb⟩ := hpsib
      rw [hPeb, hGeb]
      have htb : rnb = zbinds op := htb
      have hb5 : 5 ≤ zbinds op := zbinds_a (by omega) (by omega)
      refine zp_call (pc := 82) (how := 0) (idx := 344) (mi := 231) (S := []) hx hb hE hw heff hrm (zX_se hW) rfl (j := 33) rfl rfl (by decide +kernel) (zd_X12_behindSum (82, .invokevirtual 344, 3, 0, []) (List.mem_of_getElem? (i := 38) rfl)) [(a : Int), rnb] rfl ⟨zp_o2 hp, zp_o0 (by omega) (by omega) (by omega) (by omega), trivial⟩ (Nat.le_of_ble_eq_true rfl) ⟨f0, nc, pd, zp_n u.2.1 a 14, hnc, hpd, hsp, by omega, (show 1 ≤ rnb by omega)⟩ (fun al hal rns Ps Gs hexts hfrs hoks hcss hpsis => ?_)
      obtain rfl := List.mem_singleton.mp hal
      obtain ⟨rfl, hsets, htops⟩ := hpsis
      have hsets : zs_set rnb a (zp_n u.2.1) Gs := hsets
      have htops : ∀ pd' : Nat, Gs a 29 = pd' → pd' = 0 ∨ zbinds (zv (zp_n u.2.1) a 27 (pd' - 1)) < rnb := htops
      obtain ⟨nc1, pd1, ncs, pds, c1, c2, c3, c4, c5, c6, c7, c8, c9, c10⟩ := hsets
      obtain rfl : nc = nc1 := by omega
      obtain rfl : pd = pd1 := by omega
      have s24 : Gs a 24 = (b24 : Int) := (zp_nf hfrs hp rfl).trans hb24
      have s25 : Gs a 25 = (b25 : Int) := (zp_nf hfrs hp rfl).trans hb25
      have s27 : Gs a 27 = (b27 : Int) := (zp_nf hfrs hp rfl).trans hb27
      have s28 : Gs a 28 = (b28 : Int) := (zp_nf hfrs hp rfl).trans hb28
      refine zp_load (pc := 85) hx hb (zd_X12_behindSum (85, .aload_n 0, 1, 0, []) (List.mem_of_getElem? (i := 39) rfl)) rfl (j := 1) rfl ?_
      refine zp_load (pc := 86) hx hb (zd_X12_behindSum (86, .iload_n 2, 1, 0, []) (List.mem_of_getElem? (i := 40) rfl)) rfl (j := 0) rfl ?_
      refine zp_const (pc := 87) hx hb (zd_X12_behindSum (87, .iconst 0, 1, 0, []) (List.mem_of_getElem? (i := 41) rfl)) rfl rfl ?_
      have h400 : Gs a 29 < 400 := by omega
      refine zp_call (pc := 88) (how := 0) (idx := 307) (mi := 220) (S := []) hx hb hE hw heff hrm (zX_pu hW) rfl (j := 22) rfl rfl (by decide +kernel) (zd_X12_behindSum (88, .invokevirtual 307, 3, 0, []) (List.mem_of_getElem? (i := 42) rfl)) [(a : Int), op, 0] rfl ⟨zp_o2 hp, zp_o0 (by omega) (by omega) (by omega) (by omega), zp_o0 (by decide) (by decide) (by decide) (by decide), trivial⟩ (Nat.le_of_ble_eq_true rfl) h400 (fun al hal rnp Pp Gp hextp hfrp hokp hcsp hpsip => ?_)
      obtain rfl := List.mem_singleton.mp hal
      obtain ⟨rfl, hp1, hp2, hp3⟩ := hpsip
      have hp1 : Gp a 29 = Gs a 29 + 1 := hp1
      have hp2 : ∀ j : Nat, zv Gp a 27 j = if j = (Gs a 29).toNat then op else zv Gs a 27 j := hp2
      have hp3 : ∀ j : Nat, zv Gp a 28 j = if j = (Gs a 29).toNat then 0 else zv Gs a 28 j := hp3
      have p13 : Gp a 13 = zp_n u.2.1 a 13 := (zp_nf hfrp hp rfl).trans (zp_nf hfrs hp rfl)
      have p14 : Gp a 14 = zp_n u.2.1 a 14 := (zp_nf hfrp hp rfl).trans (zp_nf hfrs hp rfl)
      have p15 : Gp a 15 = zp_n u.2.1 a 15 := (zp_nf hfrp hp rfl).trans (zp_nf hfrs hp rfl)
      have p16 : Gp a 16 = zp_n u.2.1 a 16 := (zp_nf hfrp hp rfl).trans (zp_nf hfrs hp rfl)
      have p19 : Gp a 19 = zp_n u.2.1 a 19 := (zp_nf hfrp hp rfl).trans (zp_nf hfrs hp rfl)
      have p24 : Gp a 24 = (b24 : Int) := (zp_nf hfrp hp rfl).trans s24
      have p25 : Gp a 25 = (b25 : Int) := (zp_nf hfrp hp rfl).trans s25
      have p27 : Gp a 27 = (b27 : Int) := (zp_nf hfrp hp rfl).trans s27
      have p28 : Gp a 28 = (b28 : Int) := (zp_nf hfrp hp rfl).trans s28
      refine zp_load (pc := 91) hx hb (zd_X12_behindSum (91, .aload_n 0, 1, 0, []) (List.mem_of_getElem? (i := 43) rfl)) rfl (j := 1) rfl ?_
      have hq15 : Gp a 15 = (zp_n u.2.1 a 15) := p15
      have hq13 : Gp a 13 = (zp_n u.2.1 a 13) := p13
      refine zp_call (pc := 92) (how := 0) (idx := 244) (mi := 212) (S := []) hx hb hE hw heff hrm (zX_nx hW) rfl (j := 14) rfl rfl (by decide +kernel) (zd_X12_behindSum (92, .invokevirtual 244, 3, 0, []) (List.mem_of_getElem? (i := 44) rfl)) [(a : Int)] rfl ⟨zp_o2 hp, trivial⟩ (Nat.le_of_ble_eq_true rfl) (show 0 ≤ Gp a 15 ∧ Gp a 15 ≤ Gp a 13 by omega) (fun al hal rnn Pn Gn hextn hfrn hokn hcsn hpsin => ?_)
      obtain rfl := List.mem_singleton.mp hal
      obtain ⟨rfl, hxn⟩ := hpsin
      have hxn : Gp a 15 ≤ Gn a 14 ∧ Gn a 14 ≤ Gn a 15 ∧ Gn a 15 ≤ Gp a 13 ∧ 0 ≤ Gn a 16 ∧ Gn a 16 ≤ 3 ∧ (Gn a 16 ≠ 0 → Gn a 14 < Gn a 15) := hxn
      have n13 : Gn a 13 = (zp_n u.2.1 a 13) := (zp_nf hfrn hp rfl).trans (p13)
      have n19 : Gn a 19 = (zp_n u.2.1 a 19) := (zp_nf hfrn hp rfl).trans (p19)
      have q24 : Gn a 24 = (b24 : Int) := (zp_nf hfrn hp rfl).trans p24
      have q25 : Gn a 25 = (b25 : Int) := (zp_nf hfrn hp rfl).trans p25
      have q27 : Gn a 27 = (b27 : Int) := (zp_nf hfrn hp rfl).trans p27
      have q28 : Gn a 28 = (b28 : Int) := (zp_nf hfrn hp rfl).trans p28
      refine zp_const (pc := 95) hx hb (zd_X12_behindSum (95, .iconst 1, 1, 0, []) (List.mem_of_getElem? (i := 45) rfl)) rfl rfl ?_
      refine zp_iret (pc := 96) (n := 1) hx hb hE hQ hU5 rfl (by decide) (zd_X12_behindSum (96, .ireturn, 1, 0, []) (List.mem_of_getElem? (i := 46) rfl)) (j := 0) rfl (zp_o0 (by omega) (by omega) (by omega) (by omega)) ?_
      rw [hps]
      refine ⟨rfl, by show 1 = 1 ∨ 1 = 2 ∨ 1 = 3 ∨ 1 = 4; decide, fun z => absurd z (by decide), fun z => absurd z (by decide), fun first hz => ⟨fun _ => ?_, fun z => absurd z (by decide), fun z => absurd z (by decide)⟩⟩
      have hz : zs first 1 1 a (zp_n u.2.1) := hz
      obtain ⟨-, nc2, pd2, e1, e2, e3⟩ := hz
      obtain rfl : nc = nc2 := by omega
      obtain rfl : pd = pd2 := by omega
      have hlt : zp_n u.2.1 a 14 + 1 ≤ Gn a 14 := by have := t6 (by omega); omega
      obtain ⟨y3, y4⟩ := zs_sp_settle e3 c10 c5
      have l1 : ∀ i, i < pds → zv Gp a 27 i = zv (zp_n u.2.1) a 27 i := fun i hi => by rw [hp2, c4, Int.toNat_natCast, if_neg (by omega), c8]
      have l2 : ∀ i, i < pds → zv Gp a 28 i = zv (zp_n u.2.1) a 28 i := fun i hi => by rw [hp3, c4, Int.toNat_natCast, if_neg (by omega), c9]
      have l3 : zv Gp a 27 pds = op := by rw [hp2, c4, Int.toNat_natCast, if_pos rfl]
      have y5 := zs_sp_push (pl' := zv Gp a 27) (pa' := zv Gp a 28) y3 hlt l1 l2 (by omega) (by omega) (Or.inl (by omega))
      have y13 : Gn a 13 = zp_n u.2.1 a 13 := (zp_nf hfrn hp rfl).trans p13
      have y19 : Gn a 19 = zp_n u.2.1 a 19 := (zp_nf hfrn hp rfl).trans p19
      have q23 : Gn a 23 = ncs := ((zp_nf hfrn hp rfl).trans (zp_nf hfrp hp rfl)).trans c3
      have q29 : Gn a 29 = ((pds + 1 : Nat) : Int) := by rw [show Gn a 29 = Gp a 29 from zp_nf hfrn hp rfl, hp1, c4]; rfl
      have qv24 : ∀ j, zv Gn a 24 j = zv Gs a 24 j := fun j => by rw [zv_eq q24, zv_eq s24, zp_nc hfrn hq24 rfl, zp_nc hfrp hq24 rfl]
      have qv25 : ∀ j, zv Gn a 25 j = zv Gs a 25 j := fun j => by rw [zv_eq q25, zv_eq s25, zp_nc hfrn hq25 rfl, zp_nc hfrp hq25 rfl]
      have qv27 : ∀ j, zv Gn a 27 j = zv Gp a 27 j := fun j => by rw [zv_eq q27, zv_eq p27, zp_nc hfrn hq27 rfl]
      have qv28 : ∀ j, zv Gn a 28 j = zv Gp a 28 j := fun j => by rw [zv_eq q28, zv_eq p28, zp_nc hfrn hq28 rfl]
      show zs_go a first 0 1 (zp_n u.2.1) Gn
      refine ⟨zs_mk y5 (by unfold zs_tk; omega) q23 q29 y19 rfl qv24 qv25 qv27 qv28, fun q hq => ⟨by rw [qv24]; exact (y4 q hq).1, by rw [qv25]; exact (y4 q hq).2⟩, by omega, fun z => ⟨by omega, by omega⟩⟩
  refine zp_load (pc := 0) hx hb (zd_X12_behindSum (0, .aload_n 0, 1, 0, []) (List.mem_of_getElem? (i := 0) rfl)) rfl (j := 0) rfl ?_
  refine zp_const (pc := 1) hx hb (zd_X12_behindSum (1, .bipush 43, 2, 0, []) (List.mem_of_getElem? (i := 1) rfl)) rfl rfl ?_
  refine zp_call (pc := 3) (how := 0) (idx := 313) (mi := 221) (S := []) hx hb hE hw heff hrm (zX_si hW) rfl (j := 23) rfl rfl (by decide +kernel) (zd_X12_behindSum (3, .invokevirtual 313, 3, 0, []) (List.mem_of_getElem? (i := 2) rfl)) [(a : Int), 43] rfl ⟨zp_o2 hp, zp_o0 (by decide) (by decide) (by decide) (by decide), trivial⟩ (Nat.le_of_ble_eq_true rfl) trivial (fun al hal rnc Pc Gc hextc hfrc hokc hcsc hpsic => ?_)
  obtain rfl := List.mem_singleton.mp hal
  have hrc := zp_int (hokc _ rfl).1
  obtain ⟨hPec, hGec, htc⟩ := hpsic
  rw [hPec, hGec]
  have htc : rnc = 1 → zp_n u.2.1 a 16 = 3 := htc
  refine zp_if (pc := 6) (tgt := 14) hx hb (zd_X12_behindSum (6, .ifCond .eq 8, 3, 0, []) (List.mem_of_getElem? (i := 3) rfl)) rfl (fun (hc121 : rnc = 0) => ?_) (fun (hc121 : ¬ (rnc = 0)) => ?_)
  · refine zp_load (pc := 14) hx hb (zd_X12_behindSum (14, .aload_n 0, 1, 0, []) (List.mem_of_getElem? (i := 6) rfl)) rfl (j := 0) rfl ?_
    refine zp_const (pc := 15) hx hb (zd_X12_behindSum (15, .bipush 45, 2, 0, []) (List.mem_of_getElem? (i := 7) rfl)) rfl rfl ?_
    refine zp_call (pc := 17) (how := 0) (idx := 313) (mi := 221) (S := []) hx hb hE hw heff hrm (zX_si hW) rfl (j := 23) rfl rfl (by decide +kernel) (zd_X12_behindSum (17, .invokevirtual 313, 3, 0, []) (List.mem_of_getElem? (i := 8) rfl)) [(a : Int), 45] rfl ⟨zp_o2 hp, zp_o0 (by decide) (by decide) (by decide) (by decide), trivial⟩ (Nat.le_of_ble_eq_true rfl) trivial (fun al hal rnd Pd Gd hextd hfrd hokd hcsd hpsid => ?_)
    obtain rfl := List.mem_singleton.mp hal
    have hrd := zp_int (hokd _ rfl).1
    obtain ⟨hPed, hGed, htd⟩ := hpsid
    rw [hPed, hGed]
    have htd : rnd = 1 → zp_n u.2.1 a 16 = 3 := htd
    refine zp_if (pc := 20) (tgt := 28) hx hb (zd_X12_behindSum (20, .ifCond .eq 8, 3, 0, []) (List.mem_of_getElem? (i := 9) rfl)) rfl (fun (hc122 : rnd = 0) => ?_) (fun (hc122 : ¬ (rnd = 0)) => ?_)
    · refine zp_load (pc := 28) hx hb (zd_X12_behindSum (28, .aload_n 0, 1, 0, []) (List.mem_of_getElem? (i := 12) rfl)) rfl (j := 0) rfl ?_
      refine zp_const (pc := 29) hx hb (zd_X12_behindSum (29, .bipush 42, 2, 0, []) (List.mem_of_getElem? (i := 13) rfl)) rfl rfl ?_
      refine zp_call (pc := 31) (how := 0) (idx := 313) (mi := 221) (S := []) hx hb hE hw heff hrm (zX_si hW) rfl (j := 23) rfl rfl (by decide +kernel) (zd_X12_behindSum (31, .invokevirtual 313, 3, 0, []) (List.mem_of_getElem? (i := 14) rfl)) [(a : Int), 42] rfl ⟨zp_o2 hp, zp_o0 (by decide) (by decide) (by decide) (by decide), trivial⟩ (Nat.le_of_ble_eq_true rfl) trivial (fun al hal rnf Pf Gf hextf hfrf hokf hcsf hpsif => ?_)
      obtain rfl := List.mem_singleton.mp hal
      have hrf := zp_int (hokf _ rfl).1
      obtain ⟨hPef, hGef, htf⟩ := hpsif
      rw [hPef, hGef]
      have htf : rnf = 1 → zp_n u.2.1 a 16 = 3 := htf
      refine zp_if (pc := 34) (tgt := 42) hx hb (zd_X12_behindSum (34, .ifCond .eq 8, 3, 0, []) (List.mem_of_getElem? (i := 15) rfl)) rfl (fun (hc123 : rnf = 0) => ?_) (fun (hc123 : ¬ (rnf = 0)) => ?_)
      · refine zp_load (pc := 42) hx hb (zd_X12_behindSum (42, .aload_n 0, 1, 0, []) (List.mem_of_getElem? (i := 18) rfl)) rfl (j := 0) rfl ?_
        refine zp_const (pc := 43) hx hb (zd_X12_behindSum (43, .bipush 47, 2, 0, []) (List.mem_of_getElem? (i := 19) rfl)) rfl rfl ?_
        refine zp_call (pc := 45) (how := 0) (idx := 313) (mi := 221) (S := []) hx hb hE hw heff hrm (zX_si hW) rfl (j := 23) rfl rfl (by decide +kernel) (zd_X12_behindSum (45, .invokevirtual 313, 3, 0, []) (List.mem_of_getElem? (i := 20) rfl)) [(a : Int), 47] rfl ⟨zp_o2 hp, zp_o0 (by decide) (by decide) (by decide) (by decide), trivial⟩ (Nat.le_of_ble_eq_true rfl) trivial (fun al hal rng Pg Gg hextg hfrg hokg hcsg hpsig => ?_)
        obtain rfl := List.mem_singleton.mp hal
        have hrg := zp_int (hokg _ rfl).1
        obtain ⟨hPeg, hGeg, htg⟩ := hpsig
        rw [hPeg, hGeg]
        have htg : rng = 1 → zp_n u.2.1 a 16 = 3 := htg
        refine zp_if (pc := 48) (tgt := 56) hx hb (zd_X12_behindSum (48, .ifCond .eq 8, 3, 0, []) (List.mem_of_getElem? (i := 21) rfl)) rfl (fun (hc124 : rng = 0) => ?_) (fun (hc124 : ¬ (rng = 0)) => ?_)
        · refine zp_load (pc := 56) hx hb (zd_X12_behindSum (56, .aload_n 0, 1, 0, []) (List.mem_of_getElem? (i := 24) rfl)) rfl (j := 0) rfl ?_
          refine zp_const (pc := 57) hx hb (zd_X12_behindSum (57, .bipush 37, 2, 0, []) (List.mem_of_getElem? (i := 25) rfl)) rfl rfl ?_
          refine zp_call (pc := 59) (how := 0) (idx := 313) (mi := 221) (S := []) hx hb hE hw heff hrm (zX_si hW) rfl (j := 23) rfl rfl (by decide +kernel) (zd_X12_behindSum (59, .invokevirtual 313, 3, 0, []) (List.mem_of_getElem? (i := 26) rfl)) [(a : Int), 37] rfl ⟨zp_o2 hp, zp_o0 (by decide) (by decide) (by decide) (by decide), trivial⟩ (Nat.le_of_ble_eq_true rfl) trivial (fun al hal rnh Ph Gh hexth hfrh hokh hcsh hpsih => ?_)
          obtain rfl := List.mem_singleton.mp hal
          have hrh := zp_int (hokh _ rfl).1
          obtain ⟨hPeh, hGeh, hth⟩ := hpsih
          rw [hPeh, hGeh]
          have hth : rnh = 1 → zp_n u.2.1 a 16 = 3 := hth
          refine zp_if (pc := 62) (tgt := 70) hx hb (zd_X12_behindSum (62, .ifCond .eq 8, 3, 0, []) (List.mem_of_getElem? (i := 27) rfl)) rfl (fun (hc125 : rnh = 0) => ?_) (fun (hc125 : ¬ (rnh = 0)) => ?_)
          · refine zp_const (pc := 70) hx hb (zd_X12_behindSum (70, .iconst (-1), 1, 0, []) (List.mem_of_getElem? (i := 30) rfl)) rfl rfl ?_
            refine zp_store (L' := [(2, 0, (-1)), (0, 2, (a : Int)), (1, 0, p1)]) (pc := 71) hx hb hnL (zd_X12_behindSum (71, .istore_n 2, 1, 0, []) (List.mem_of_getElem? (i := 31) rfl)) rfl rfl rfl ?_
            exact h72 (-1) (by omega)
          · refine zp_const (pc := 65) hx hb (zd_X12_behindSum (65, .bipush 24, 2, 0, []) (List.mem_of_getElem? (i := 28) rfl)) rfl rfl ?_
            refine zp_goto (tgt := 71) (pc := 67) hx hb (zd_X12_behindSum (67, .goto 4, 3, 0, []) (List.mem_of_getElem? (i := 29) rfl)) rfl ?_
            refine zp_store (L' := [(2, 0, 24), (0, 2, (a : Int)), (1, 0, p1)]) (pc := 71) hx hb hnL (zd_X12_behindSum (71, .istore_n 2, 1, 0, []) (List.mem_of_getElem? (i := 31) rfl)) rfl rfl rfl ?_
            exact h72 24 (by omega)
        · refine zp_const (pc := 51) hx hb (zd_X12_behindSum (51, .bipush 23, 2, 0, []) (List.mem_of_getElem? (i := 22) rfl)) rfl rfl ?_
          refine zp_goto (tgt := 71) (pc := 53) hx hb (zd_X12_behindSum (53, .goto 18, 3, 0, []) (List.mem_of_getElem? (i := 23) rfl)) rfl ?_
          refine zp_store (L' := [(2, 0, 23), (0, 2, (a : Int)), (1, 0, p1)]) (pc := 71) hx hb hnL (zd_X12_behindSum (71, .istore_n 2, 1, 0, []) (List.mem_of_getElem? (i := 31) rfl)) rfl rfl rfl ?_
          exact h72 23 (by omega)
      · refine zp_const (pc := 37) hx hb (zd_X12_behindSum (37, .bipush 22, 2, 0, []) (List.mem_of_getElem? (i := 16) rfl)) rfl rfl ?_
        refine zp_goto (tgt := 71) (pc := 39) hx hb (zd_X12_behindSum (39, .goto 32, 3, 0, []) (List.mem_of_getElem? (i := 17) rfl)) rfl ?_
        refine zp_store (L' := [(2, 0, 22), (0, 2, (a : Int)), (1, 0, p1)]) (pc := 71) hx hb hnL (zd_X12_behindSum (71, .istore_n 2, 1, 0, []) (List.mem_of_getElem? (i := 31) rfl)) rfl rfl rfl ?_
        exact h72 22 (by omega)
    · refine zp_const (pc := 23) hx hb (zd_X12_behindSum (23, .bipush 21, 2, 0, []) (List.mem_of_getElem? (i := 10) rfl)) rfl rfl ?_
      refine zp_goto (tgt := 71) (pc := 25) hx hb (zd_X12_behindSum (25, .goto 46, 3, 0, []) (List.mem_of_getElem? (i := 11) rfl)) rfl ?_
      refine zp_store (L' := [(2, 0, 21), (0, 2, (a : Int)), (1, 0, p1)]) (pc := 71) hx hb hnL (zd_X12_behindSum (71, .istore_n 2, 1, 0, []) (List.mem_of_getElem? (i := 31) rfl)) rfl rfl rfl ?_
      exact h72 21 (by omega)
  · refine zp_const (pc := 9) hx hb (zd_X12_behindSum (9, .bipush 20, 2, 0, []) (List.mem_of_getElem? (i := 4) rfl)) rfl rfl ?_
    refine zp_goto (tgt := 71) (pc := 11) hx hb (zd_X12_behindSum (11, .goto 60, 3, 0, []) (List.mem_of_getElem? (i := 5) rfl)) rfl ?_
    refine zp_store (L' := [(2, 0, 20), (0, 2, (a : Int)), (1, 0, p1)]) (pc := 71) hx hb hnL (zd_X12_behindSum (71, .istore_n 2, 1, 0, []) (List.mem_of_getElem? (i := 31) rfl)) rfl rfl rfl ?_
    exact h72 20 (by omega)
def zK_bt : zk_K := (zt_mn 234, prog_14_method_57_code, 2, (Option.some Jvm.ClassFile.FieldType.int), 1, 12, [(2, 92, 0, 0)], [(some (0, 0, 0, 4), [])], [(92, 14, 0), (92, 15, 0), (92, 16, 0), (92, 17, 0), (92, 18, 0), (92, 19, 0), (92, 30, 0), (92, 29, 0), (92, 23, 0), (68, 1001, 0), (69, 1001, 0), (70, 1001, 0), (71, 1001, 0)], (4, 190, 0, 0))
def zφ_bt : (Nat → Option Nat) → (Nat → Nat → Int) → List Int → Prop := fun _ G ps => ∃ first : Nat, zs first 1 0 (zp_0 ps) G
def zψ_bt : (Nat → Option Nat) → (Nat → Nat → Int) → List Int → (Nat → Option Nat) → (Nat → Nat → Int) → Int → Prop := fun P G ps P' G' rn => P' = P ∧ (rn = 0 ∨ rn = 2 ∨ rn = 4) ∧ (rn = 4 → G' = G ∧ ∀ i : Nat, (i : Int) < G (zp_0 ps) 29 → zv G (zp_0 ps) 27 i < 31) ∧ ∀ first : Nat, zs first 1 0 (zp_0 ps) G → (rn = 0 → zs_go (zp_0 ps) first 0 0 G G') ∧ (rn = 2 → zs_go (zp_0 ps) first 1 0 G G')
theorem zX_bt {l : Launch} {w : zk_W} (hW : zh_W w) : zk_metX l w zt_dv zt_TB zK_bt (zp_A zφ_bt) (zp_B zψ_bt) ∧ zk_cok w zt_TB zK_bt := by
  refine zp_meth hW (pl := 1781) rfl (by decide +kernel) (fun p e R s m args below meth c Q u hx hb hE hQ hU5 heff hnL hok hφ => ?_)
  have hw := hW.1
  obtain ⟨p0, hps, k0⟩ := zp_ps1 hok
  obtain ⟨a, rfl, hp⟩ := zp_this k0
  have hrm : zk_Kr (zk_ev (zp_E zK_bt)) = zk_Kr zK_bt := rfl
  rw [hps] at hφ ⊢
  have hφ : ∃ first : Nat, zs first 1 0 a (zp_n u.2.1) := hφ
  obtain ⟨f0, hzs⟩ := hφ
  have hzs2 := hzs
  obtain ⟨htk, nc, pd, hnc, hpd, hsp, hsq⟩ := hzs2
  have hw2 := hsp.2.1
  have hw3 := hsp.2.2.1
  have hw4 := hsp.2.2.2
  have htk2 := htk
  obtain ⟨t1, t2, t3, t4, t5, t6⟩ := htk2
  show zp_J p l e R s m args below meth c Q w u [] 0 [(0, 2, (a : Int))] [] u.1 (zp_n u.2.1)
  refine zp_kn (k := 24) (a := a) hw (show zp_fd 92 24 = some (12, 2, 68, 0, 0) from rfl) rfl hp (fun hk24 => ?_)
  obtain ⟨b24, hb24, hq24⟩ := zp_this hk24
  refine zp_kn (k := 25) (a := a) hw (show zp_fd 92 25 = some (12, 2, 69, 0, 0) from rfl) rfl hp (fun hk25 => ?_)
  obtain ⟨b25, hb25, hq25⟩ := zp_this hk25
  refine zp_kn (k := 27) (a := a) hw (show zp_fd 92 27 = some (12, 2, 70, 0, 0) from rfl) rfl hp (fun hk27 => ?_)
  obtain ⟨b27, hb27, hq27⟩ := zp_this hk27
  refine zp_kn (k := 28) (a := a) hw (show zp_fd 92 28 = some (12, 2, 71, 0, 0) from rfl) rfl hp (fun hk28 => ?_)
  obtain ⟨b28, hb28, hq28⟩ := zp_this hk28
  refine zp_kn (k := 13) (a := a) hw (show zp_fd 92 13 = some (12, 0, 0, 0, 400) from rfl) rfl hp (fun hk13 => ?_)
  have hxb := zp_int hk13
  refine zp_kn (k := 19) (a := a) hw (show zp_fd 92 19 = some (12, 0, 0, 0, 1) from rfl) rfl hp (fun hk19 => ?_)
  have hxb := zp_int hk19
  have h22 : ∀ (an : Int), (0 ≤ an ∧ an ≤ 1) → zp_n u.2.1 a 16 = 1 → zp_J p l e R s m args below meth c Q w u [] 22 [(1, 0, an), (0, 2, (a : Int))] [] u.1 (zp_n u.2.1) := by
    intro an han hs1
    refine zp_load (pc := 22) hx hb (zd_X12_behindTest (22, .aload_n 0, 1, 0, []) (List.mem_of_getElem? (i := 10) rfl)) rfl (j := 1) rfl ?_
    refine zp_load (pc := 23) hx hb (zd_X12_behindTest (23, .iload_n 1, 1, 0, []) (List.mem_of_getElem? (i := 11) rfl)) rfl (j := 0) rfl ?_
    refine zp_if (pc := 24) (tgt := 31) hx hb (zd_X12_behindTest (24, .ifCond .eq 7, 3, 0, []) (List.mem_of_getElem? (i := 12) rfl)) rfl (fun (hc126 : an = 0) => ?_) (fun (hc126 : ¬ (an = 0)) => ?_)
    · refine zp_const (pc := 31) hx hb (zd_X12_behindTest (31, .iconst 1, 1, 0, []) (List.mem_of_getElem? (i := 15) rfl)) rfl rfl ?_
      refine zp_call (pc := 32) (how := 0) (idx := 344) (mi := 231) (S := []) hx hb hE hw heff hrm (zX_se hW) rfl (j := 33) rfl rfl (by decide +kernel) (zd_X12_behindTest (32, .invokevirtual 344, 3, 0, []) (List.mem_of_getElem? (i := 16) rfl)) [(a : Int), 1] rfl ⟨zp_o2 hp, zp_o0 (by omega) (by omega) (by omega) (by omega), trivial⟩ (Nat.le_of_ble_eq_true rfl) ⟨f0, nc, pd, zp_n u.2.1 a 14, hnc, hpd, hsp, by omega, (show (1 : Int) ≤ 1 by decide)⟩ (fun al hal rns Ps Gs hexts hfrs hoks hcss hpsis => ?_)
      obtain rfl := List.mem_singleton.mp hal
      obtain ⟨rfl, hsets, htops⟩ := hpsis
      have hsets : zs_set 1 a (zp_n u.2.1) Gs := hsets
      have htops : ∀ pd' : Nat, Gs a 29 = pd' → pd' = 0 ∨ zbinds (zv (zp_n u.2.1) a 27 (pd' - 1)) < 1 := htops
      obtain ⟨nc1, pd1, ncs, pds, c1, c2, c3, c4, c5, c6, c7, c8, c9, c10⟩ := hsets
      obtain rfl : nc = nc1 := by omega
      obtain rfl : pd = pd1 := by omega
      have s24 : Gs a 24 = (b24 : Int) := (zp_nf hfrs hp rfl).trans hb24
      have s25 : Gs a 25 = (b25 : Int) := (zp_nf hfrs hp rfl).trans hb25
      have s27 : Gs a 27 = (b27 : Int) := (zp_nf hfrs hp rfl).trans hb27
      have s28 : Gs a 28 = (b28 : Int) := (zp_nf hfrs hp rfl).trans hb28
      have s13 : Gs a 13 = zp_n u.2.1 a 13 := zp_nf hfrs hp rfl
      have s14 : Gs a 14 = zp_n u.2.1 a 14 := zp_nf hfrs hp rfl
      have s15 : Gs a 15 = zp_n u.2.1 a 15 := zp_nf hfrs hp rfl
      have s16 : Gs a 16 = zp_n u.2.1 a 16 := zp_nf hfrs hp rfl
      have s19 : Gs a 19 = zp_n u.2.1 a 19 := zp_nf hfrs hp rfl
      obtain ⟨b1, -, -⟩ := c10 f0 (zp_n u.2.1 a 14) hsp
      have b2 := b1.2.1
      have b3 := b1.2.2.1
      have hlt0 := t6 (by omega)
      refine zp_load (pc := 35) hx hb (zd_X12_behindTest (35, .aload_n 0, 1, 0, []) (List.mem_of_getElem? (i := 17) rfl)) rfl (j := 1) rfl ?_
      refine zp_load (pc := 36) hx hb (zd_X12_behindTest (36, .iload_n 1, 1, 0, []) (List.mem_of_getElem? (i := 18) rfl)) rfl (j := 0) rfl ?_
      refine zp_if (pc := 37) (tgt := 45) hx hb (zd_X12_behindTest (37, .ifCond .eq 8, 3, 0, []) (List.mem_of_getElem? (i := 19) rfl)) rfl (fun (hc127 : an = 0) => ?_) (fun (hc127 : ¬ (an = 0)) => ?_)
      · refine zp_const (pc := 45) hx hb (zd_X12_behindTest (45, .bipush 30, 2, 0, []) (List.mem_of_getElem? (i := 22) rfl)) rfl rfl ?_
        refine zp_load (pc := 47) hx hb (zd_X12_behindTest (47, .aload_n 0, 1, 0, []) (List.mem_of_getElem? (i := 23) rfl)) rfl (j := 1) rfl ?_
        refine zp_getf (n := (ncs : Int)) (pc := 48) hx hb hE hw (zd_X12_behindTest (48, .getfield 279, 3, 0, []) (List.mem_of_getElem? (i := 24) rfl)) (j := 41) rfl rfl rfl hp c3 ?_
        refine zp_call (pc := 51) (how := 0) (idx := 307) (mi := 220) (S := []) hx hb hE hw heff hrm (zX_pu hW) rfl (j := 22) rfl rfl (by decide +kernel) (zd_X12_behindTest (51, .invokevirtual 307, 3, 0, []) (List.mem_of_getElem? (i := 25) rfl)) [(a : Int), 30, (ncs : Int)] rfl ⟨zp_o2 hp, zp_o0 (by decide) (by decide) (by decide) (by decide), zp_o0 (by omega) (by omega) (by omega) (by omega), trivial⟩ (Nat.le_of_ble_eq_true rfl) (show Gs a 29 < 400 by omega) (fun al hal rnp Pp Gp hextp hfrp hokp hcsp hpsip => ?_)
        obtain rfl := List.mem_singleton.mp hal
        obtain ⟨rfl, hp1, hp2, hp3⟩ := hpsip
        have hp1 : Gp a 29 = Gs a 29 + 1 := hp1
        have hp2 : ∀ j : Nat, zv Gp a 27 j = if j = (Gs a 29).toNat then 30 else zv Gs a 27 j := hp2
        have hp3 : ∀ j : Nat, zv Gp a 28 j = if j = (Gs a 29).toNat then (ncs : Int) else zv Gs a 28 j := hp3
        have p24 : Gp a 24 = (b24 : Int) := (zp_nf hfrp hp rfl).trans s24
        have p25 : Gp a 25 = (b25 : Int) := (zp_nf hfrp hp rfl).trans s25
        have p27 : Gp a 27 = (b27 : Int) := (zp_nf hfrp hp rfl).trans s27
        have p28 : Gp a 28 = (b28 : Int) := (zp_nf hfrp hp rfl).trans s28
        have p13 : Gp a 13 = zp_n u.2.1 a 13 := (zp_nf hfrp hp rfl).trans s13
        have p14 : Gp a 14 = zp_n u.2.1 a 14 := (zp_nf hfrp hp rfl).trans s14
        have p15 : Gp a 15 = zp_n u.2.1 a 15 := (zp_nf hfrp hp rfl).trans s15
        have p16 : Gp a 16 = zp_n u.2.1 a 16 := (zp_nf hfrp hp rfl).trans s16
        have p19 : Gp a 19 = zp_n u.2.1 a 19 := (zp_nf hfrp hp rfl).trans s19
        have p23 : Gp a 23 = (ncs : Int) := (zp_nf hfrp hp rfl).trans c3
        refine zp_load (pc := 54) hx hb (zd_X12_behindTest (54, .aload_n 0, 1, 0, []) (List.mem_of_getElem? (i := 26) rfl)) rfl (j := 1) rfl ?_
        refine zp_load (pc := 55) hx hb (zd_X12_behindTest (55, .iload_n 1, 1, 0, []) (List.mem_of_getElem? (i := 27) rfl)) rfl (j := 0) rfl ?_
        refine zp_if (pc := 56) (tgt := 64) hx hb (zd_X12_behindTest (56, .ifCond .eq 8, 3, 0, []) (List.mem_of_getElem? (i := 28) rfl)) rfl (fun (hc128 : an = 0) => ?_) (fun (hc128 : ¬ (an = 0)) => ?_)
        · refine zp_const (pc := 64) hx hb (zd_X12_behindTest (64, .bipush 30, 2, 0, []) (List.mem_of_getElem? (i := 31) rfl)) rfl rfl ?_
          refine zp_const (pc := 66) hx hb (zd_X12_behindTest (66, .iconst 0, 1, 0, []) (List.mem_of_getElem? (i := 32) rfl)) rfl rfl ?_
          refine zp_call (pc := 67) (how := 0) (idx := 288) (mi := 227) (S := []) hx hb hE hw heff hrm (zX_em hW) rfl (j := 29) rfl rfl (by decide +kernel) (zd_X12_behindTest (67, .invokevirtual 288, 3, 0, []) (List.mem_of_getElem? (i := 33) rfl)) [(a : Int), 30, 0] rfl ⟨zp_o2 hp, zp_o0 (by decide) (by decide) (by decide) (by decide), zp_o0 (by decide) (by decide) (by decide) (by decide), trivial⟩ (Nat.le_of_ble_eq_true rfl) (show Gp a 23 < 400 by omega) (fun al hal rne Pe Ge hexte hfre hoke hcse hpsie => ?_)
          obtain rfl := List.mem_singleton.mp hal
          obtain ⟨rfl, he1, he2, he3⟩ := hpsie
          have he1 : Ge a 23 = Gp a 23 + 1 := he1
          have he2 : ∀ j : Nat, zv Ge a 24 j = if j = (Gp a 23).toNat then 30 else zv Gp a 24 j := he2
          have he3 : ∀ j : Nat, zv Ge a 25 j = if j = (Gp a 23).toNat then 0 else zv Gp a 25 j := he3
          have e24 : Ge a 24 = (b24 : Int) := (zp_nf hfre hp rfl).trans p24
          have e25 : Ge a 25 = (b25 : Int) := (zp_nf hfre hp rfl).trans p25
          have e27 : Ge a 27 = (b27 : Int) := (zp_nf hfre hp rfl).trans p27
          have e28 : Ge a 28 = (b28 : Int) := (zp_nf hfre hp rfl).trans p28
          have e13 : Ge a 13 = zp_n u.2.1 a 13 := (zp_nf hfre hp rfl).trans p13
          have e14 : Ge a 14 = zp_n u.2.1 a 14 := (zp_nf hfre hp rfl).trans p14
          have e15 : Ge a 15 = zp_n u.2.1 a 15 := (zp_nf hfre hp rfl).trans p15
          have e16 : Ge a 16 = zp_n u.2.1 a 16 := (zp_nf hfre hp rfl).trans p16
          have e19 : Ge a 19 = zp_n u.2.1 a 19 := (zp_nf hfre hp rfl).trans p19
          refine zp_load (pc := 70) hx hb (zd_X12_behindTest (70, .aload_n 0, 1, 0, []) (List.mem_of_getElem? (i := 34) rfl)) rfl (j := 1) rfl ?_
          have hq15 : Ge a 15 = (zp_n u.2.1 a 15) := e15
          have hq13 : Ge a 13 = (zp_n u.2.1 a 13) := e13
          refine zp_call (pc := 71) (how := 0) (idx := 244) (mi := 212) (S := []) hx hb hE hw heff hrm (zX_nx hW) rfl (j := 14) rfl rfl (by decide +kernel) (zd_X12_behindTest (71, .invokevirtual 244, 3, 0, []) (List.mem_of_getElem? (i := 35) rfl)) [(a : Int)] rfl ⟨zp_o2 hp, trivial⟩ (Nat.le_of_ble_eq_true rfl) (show 0 ≤ Ge a 15 ∧ Ge a 15 ≤ Ge a 13 by omega) (fun al hal rnn Pn Gn hextn hfrn hokn hcsn hpsin => ?_)
          obtain rfl := List.mem_singleton.mp hal
          obtain ⟨rfl, hxn⟩ := hpsin
          have hxn : Ge a 15 ≤ Gn a 14 ∧ Gn a 14 ≤ Gn a 15 ∧ Gn a 15 ≤ Ge a 13 ∧ 0 ≤ Gn a 16 ∧ Gn a 16 ≤ 3 ∧ (Gn a 16 ≠ 0 → Gn a 14 < Gn a 15) := hxn
          have n13 : Gn a 13 = (zp_n u.2.1 a 13) := (zp_nf hfrn hp rfl).trans (e13)
          have n19 : Gn a 19 = (zp_n u.2.1 a 19) := (zp_nf hfrn hp rfl).trans (e19)
          have q24 : Gn a 24 = (b24 : Int) := (zp_nf hfrn hp rfl).trans e24
          have q25 : Gn a 25 = (b25 : Int) := (zp_nf hfrn hp rfl).trans e25
          have q27 : Gn a 27 = (b27 : Int) := (zp_nf hfrn hp rfl).trans e27
          have q28 : Gn a 28 = (b28 : Int) := (zp_nf hfrn hp rfl).trans e28
          refine zp_const (pc := 74) hx hb (zd_X12_behindTest (74, .iconst 0, 1, 0, []) (List.mem_of_getElem? (i := 36) rfl)) rfl rfl ?_
          refine zp_iret (pc := 75) (n := 0) hx hb hE hQ hU5 rfl (by decide) (zd_X12_behindTest (75, .ireturn, 1, 0, []) (List.mem_of_getElem? (i := 37) rfl)) (j := 0) rfl (zp_o0 (by omega) (by omega) (by omega) (by omega)) ?_
          rw [hps]
          refine ⟨rfl, by show 0 = 0 ∨ 0 = 2 ∨ 0 = 4; decide, fun z => absurd z (by decide), fun first hz => ⟨fun _ => ?_, fun z => absurd z (by decide)⟩⟩
          have hz : zs first 1 0 a (zp_n u.2.1) := hz
          obtain ⟨-, nc2, pd2, e1, e2, e3⟩ := hz
          obtain rfl : nc = nc2 := by omega
          obtain rfl : pd = pd2 := by omega
          obtain ⟨y3, y4⟩ := zs_sp_settle e3 c10 c5
          have l1 : ∀ i, i < pds → zv Gp a 27 i = zv (zp_n u.2.1) a 27 i := fun i hi => by rw [hp2, c4, Int.toNat_natCast, if_neg (by omega), c8]
          have l2 : ∀ i, i < pds → zv Gp a 28 i = zv (zp_n u.2.1) a 28 i := fun i hi => by rw [hp3, c4, Int.toNat_natCast, if_neg (by omega), c9]
          have l3 : zv Gp a 27 pds = 30 := by rw [hp2, c4, Int.toNat_natCast, if_pos rfl]
          have l4 : zv Gp a 28 pds = (ncs : Int) := by rw [hp3, c4, Int.toNat_natCast, if_pos rfl]
          have pv24 : ∀ j, zv Gp a 24 j = zv Gs a 24 j := fun j => by rw [zv_eq p24, zv_eq s24, zp_nc hfrp hq24 rfl]
          have pv25 : ∀ j, zv Gp a 25 j = zv Gs a 25 j := fun j => by rw [zv_eq p25, zv_eq s25, zp_nc hfrp hq25 rfl]
          have o1 : ∀ q, q < ncs → zv Ge a 24 q = zv Gs a 24 q := fun q hq => by rw [he2, p23, Int.toNat_natCast, if_neg (by omega), pv24]
          have o2 : ∀ q, q < ncs → zv Ge a 25 q = zv Gs a 25 q := fun q hq => by rw [he3, p23, Int.toNat_natCast, if_neg (by omega), pv25]
          have o3 : zv Ge a 24 ncs = 30 := by rw [he2, p23, Int.toNat_natCast, if_pos rfl]
          have hlt : zp_n u.2.1 a 14 + 1 ≤ Gn a 14 := by omega
          have y5 := zs_sp_ao (op' := zv Ge a 24) (ar' := zv Ge a 25) (pl' := zv Gp a 27) (pa' := zv Gp a 28) y3 hlt l1 l2 (by omega) l4 o1 o2 (by omega)
          have hff := y3.1.1
          have y13 : Gn a 13 = zp_n u.2.1 a 13 := (zp_nf hfrn hp rfl).trans e13
          have y19 : Gn a 19 = zp_n u.2.1 a 19 := (zp_nf hfrn hp rfl).trans e19
          have q23 : Gn a 23 = ((ncs + 1 : Nat) : Int) := by rw [show Gn a 23 = Ge a 23 from zp_nf hfrn hp rfl, he1, p23]; rfl
          have q29 : Gn a 29 = ((pds + 1 : Nat) : Int) := by rw [show Gn a 29 = Gp a 29 from (zp_nf hfrn hp rfl).trans (zp_nf hfre hp rfl), hp1, c4]; rfl
          have qv24 : ∀ j, zv Gn a 24 j = zv Ge a 24 j := fun j => by rw [zv_eq q24, zv_eq e24, zp_nc hfrn hq24 rfl]
          have qv25 : ∀ j, zv Gn a 25 j = zv Ge a 25 j := fun j => by rw [zv_eq q25, zv_eq e25, zp_nc hfrn hq25 rfl]
          have qv27 : ∀ j, zv Gn a 27 j = zv Gp a 27 j := fun j => by rw [zv_eq q27, zv_eq p27, zp_nc hfrn hq27 rfl, zp_nc hfre hq27 rfl]
          have qv28 : ∀ j, zv Gn a 28 j = zv Gp a 28 j := fun j => by rw [zv_eq q28, zv_eq p28, zp_nc hfrn hq28 rfl, zp_nc hfre hq28 rfl]
          show zs_go a first 0 0 (zp_n u.2.1) Gn
          refine ⟨zs_mk y5 (by unfold zs_tk; omega) q23 q29 y19 rfl qv24 qv25 qv27 qv28, fun q hq => ⟨by rw [qv24, o1 q (by omega)]; exact (y4 q hq).1, by rw [qv25, o2 q (by omega)]; exact (y4 q hq).2⟩, by omega, fun z => ⟨by omega, by omega⟩⟩
        · refine zp_const (pc := 59) hx hb (zd_X12_behindTest (59, .bipush 29, 2, 0, []) (List.mem_of_getElem? (i := 29) rfl)) rfl rfl ?_
          refine zp_goto (tgt := 66) (pc := 61) hx hb (zd_X12_behindTest (61, .goto 5, 3, 0, []) (List.mem_of_getElem? (i := 30) rfl)) rfl ?_
          refine zp_const (pc := 66) hx hb (zd_X12_behindTest (66, .iconst 0, 1, 0, []) (List.mem_of_getElem? (i := 32) rfl)) rfl rfl ?_
          refine zp_call (pc := 67) (how := 0) (idx := 288) (mi := 227) (S := []) hx hb hE hw heff hrm (zX_em hW) rfl (j := 29) rfl rfl (by decide +kernel) (zd_X12_behindTest (67, .invokevirtual 288, 3, 0, []) (List.mem_of_getElem? (i := 33) rfl)) [(a : Int), 29, 0] rfl ⟨zp_o2 hp, zp_o0 (by decide) (by decide) (by decide) (by decide), zp_o0 (by decide) (by decide) (by decide) (by decide), trivial⟩ (Nat.le_of_ble_eq_true rfl) (show Gp a 23 < 400 by omega) (fun al hal rne Pe Ge hexte hfre hoke hcse hpsie => ?_)
          obtain rfl := List.mem_singleton.mp hal
          obtain ⟨rfl, he1, he2, he3⟩ := hpsie
          have he1 : Ge a 23 = Gp a 23 + 1 := he1
          have he2 : ∀ j : Nat, zv Ge a 24 j = if j = (Gp a 23).toNat then 29 else zv Gp a 24 j := he2
          have he3 : ∀ j : Nat, zv Ge a 25 j = if j = (Gp a 23).toNat then 0 else zv Gp a 25 j := he3
          have e24 : Ge a 24 = (b24 : Int) := (zp_nf hfre hp rfl).trans p24
          have e25 : Ge a 25 = (b25 : Int) := (zp_nf hfre hp rfl).trans p25
          have e27 : Ge a 27 = (b27 : Int) := (zp_nf hfre hp rfl).trans p27
          have e28 : Ge a 28 = (b28 : Int) := (zp_nf hfre hp rfl).trans p28
          have e13 : Ge a 13 = zp_n u.2.1 a 13 := (zp_nf hfre hp rfl).trans p13
          have e14 : Ge a 14 = zp_n u.2.1 a 14 := (zp_nf hfre hp rfl).trans p14
          have e15 : Ge a 15 = zp_n u.2.1 a 15 := (zp_nf hfre hp rfl).trans p15
          have e16 : Ge a 16 = zp_n u.2.1 a 16 := (zp_nf hfre hp rfl).trans p16
          have e19 : Ge a 19 = zp_n u.2.1 a 19 := (zp_nf hfre hp rfl).trans p19
          refine zp_load (pc := 70) hx hb (zd_X12_behindTest (70, .aload_n 0, 1, 0, []) (List.mem_of_getElem? (i := 34) rfl)) rfl (j := 1) rfl ?_
          have hq15 : Ge a 15 = (zp_n u.2.1 a 15) := e15
          have hq13 : Ge a 13 = (zp_n u.2.1 a 13) := e13
          refine zp_call (pc := 71) (how := 0) (idx := 244) (mi := 212) (S := []) hx hb hE hw heff hrm (zX_nx hW) rfl (j := 14) rfl rfl (by decide +kernel) (zd_X12_behindTest (71, .invokevirtual 244, 3, 0, []) (List.mem_of_getElem? (i := 35) rfl)) [(a : Int)] rfl ⟨zp_o2 hp, trivial⟩ (Nat.le_of_ble_eq_true rfl) (show 0 ≤ Ge a 15 ∧ Ge a 15 ≤ Ge a 13 by omega) (fun al hal rnn Pn Gn hextn hfrn hokn hcsn hpsin => ?_)
          obtain rfl := List.mem_singleton.mp hal
          obtain ⟨rfl, hxn⟩ := hpsin
          have hxn : Ge a 15 ≤ Gn a 14 ∧ Gn a 14 ≤ Gn a 15 ∧ Gn a 15 ≤ Ge a 13 ∧ 0 ≤ Gn a 16 ∧ Gn a 16 ≤ 3 ∧ (Gn a 16 ≠ 0 → Gn a 14 < Gn a 15) := hxn
          have n13 : Gn a 13 = (zp_n u.2.1 a 13) := (zp_nf hfrn hp rfl).trans (e13)
          have n19 : Gn a 19 = (zp_n u.2.1 a 19) := (zp_nf hfrn hp rfl).trans (e19)
          have q24 : Gn a 24 = (b24 : Int) := (zp_nf hfrn hp rfl).trans e24
          have q25 : Gn a 25 = (b25 : Int) := (zp_nf hfrn hp rfl).trans e25
          have q27 : Gn a 27 = (b27 : Int) := (zp_nf hfrn hp rfl).trans e27
          have q28 : Gn a 28 = (b28 : Int) := (zp_nf hfrn hp rfl).trans e28
          refine zp_const (pc := 74) hx hb (zd_X12_behindTest (74, .iconst 0, 1, 0, []) (List.mem_of_getElem? (i := 36) rfl)) rfl rfl ?_
          refine zp_iret (pc := 75) (n := 0) hx hb hE hQ hU5 rfl (by decide) (zd_X12_behindTest (75, .ireturn, 1, 0, []) (List.mem_of_getElem? (i := 37) rfl)) (j := 0) rfl (zp_o0 (by omega) (by omega) (by omega) (by omega)) ?_
          rw [hps]
          refine ⟨rfl, by show 0 = 0 ∨ 0 = 2 ∨ 0 = 4; decide, fun z => absurd z (by decide), fun first hz => ⟨fun _ => ?_, fun z => absurd z (by decide)⟩⟩
          have hz : zs first 1 0 a (zp_n u.2.1) := hz
          obtain ⟨-, nc2, pd2, e1, e2, e3⟩ := hz
          obtain rfl : nc = nc2 := by omega
          obtain rfl : pd = pd2 := by omega
          obtain ⟨y3, y4⟩ := zs_sp_settle e3 c10 c5
          have l1 : ∀ i, i < pds → zv Gp a 27 i = zv (zp_n u.2.1) a 27 i := fun i hi => by rw [hp2, c4, Int.toNat_natCast, if_neg (by omega), c8]
          have l2 : ∀ i, i < pds → zv Gp a 28 i = zv (zp_n u.2.1) a 28 i := fun i hi => by rw [hp3, c4, Int.toNat_natCast, if_neg (by omega), c9]
          have l3 : zv Gp a 27 pds = 30 := by rw [hp2, c4, Int.toNat_natCast, if_pos rfl]
          have l4 : zv Gp a 28 pds = (ncs : Int) := by rw [hp3, c4, Int.toNat_natCast, if_pos rfl]
          have pv24 : ∀ j, zv Gp a 24 j = zv Gs a 24 j := fun j => by rw [zv_eq p24, zv_eq s24, zp_nc hfrp hq24 rfl]
          have pv25 : ∀ j, zv Gp a 25 j = zv Gs a 25 j := fun j => by rw [zv_eq p25, zv_eq s25, zp_nc hfrp hq25 rfl]
          have o1 : ∀ q, q < ncs → zv Ge a 24 q = zv Gs a 24 q := fun q hq => by rw [he2, p23, Int.toNat_natCast, if_neg (by omega), pv24]
          have o2 : ∀ q, q < ncs → zv Ge a 25 q = zv Gs a 25 q := fun q hq => by rw [he3, p23, Int.toNat_natCast, if_neg (by omega), pv25]
          have o3 : zv Ge a 24 ncs = 29 := by rw [he2, p23, Int.toNat_natCast, if_pos rfl]
          have hlt : zp_n u.2.1 a 14 + 1 ≤ Gn a 14 := by omega
          have y5 := zs_sp_ao (op' := zv Ge a 24) (ar' := zv Ge a 25) (pl' := zv Gp a 27) (pa' := zv Gp a 28) y3 hlt l1 l2 (by omega) l4 o1 o2 (by omega)
          have hff := y3.1.1
          have y13 : Gn a 13 = zp_n u.2.1 a 13 := (zp_nf hfrn hp rfl).trans e13
          have y19 : Gn a 19 = zp_n u.2.1 a 19 := (zp_nf hfrn hp rfl).trans e19
          have q23 : Gn a 23 = ((ncs + 1 : Nat) : Int) := by rw [show Gn a 23 = Ge a 23 from zp_nf hfrn hp rfl, he1, p23]; rfl
          have q29 : Gn a 29 = ((pds + 1 : Nat) : Int) := by rw [show Gn a 29 = Gp a 29 from (zp_nf hfrn hp rfl).trans (zp_nf hfre hp rfl), hp1, c4]; rfl
          have qv24 : ∀ j, zv Gn a 24 j = zv Ge a 24 j := fun j => by rw [zv_eq q24, zv_eq e24, zp_nc hfrn hq24 rfl]
          have qv25 : ∀ j, zv Gn a 25 j = zv Ge a 25 j := fun j => by rw [zv_eq q25, zv_eq e25, zp_nc hfrn hq25 rfl]
          have qv27 : ∀ j, zv Gn a 27 j = zv Gp a 27 j := fun j => by rw [zv_eq q27, zv_eq p27, zp_nc hfrn hq27 rfl, zp_nc hfre hq27 rfl]
          have qv28 : ∀ j, zv Gn a 28 j = zv Gp a 28 j := fun j => by rw [zv_eq q28, zv_eq p28, zp_nc hfrn hq28 rfl, zp_nc hfre hq28 rfl]
          show zs_go a first 0 0 (zp_n u.2.1) Gn
          refine ⟨zs_mk y5 (by unfold zs_tk; omega) q23 q29 y19 rfl qv24 qv25 qv27 qv28, fun q hq => ⟨by rw [qv24, o1 q (by omega)]; exact (y4 q hq).1, by rw [qv25, o2 q (by omega)]; exact (y4 q hq).2⟩, by omega, fun z => ⟨by omega, by omega⟩⟩
      · refine zp_const (pc := 40) hx hb (zd_X12_behindTest (40, .bipush 29, 2, 0, []) (List.mem_of_getElem? (i := 20) rfl)) rfl rfl ?_
        refine zp_goto (tgt := 47) (pc := 42) hx hb (zd_X12_behindTest (42, .goto 5, 3, 0, []) (List.mem_of_getElem? (i := 21) rfl)) rfl ?_
        refine zp_load (pc := 47) hx hb (zd_X12_behindTest (47, .aload_n 0, 1, 0, []) (List.mem_of_getElem? (i := 23) rfl)) rfl (j := 1) rfl ?_
        refine zp_getf (n := (ncs : Int)) (pc := 48) hx hb hE hw (zd_X12_behindTest (48, .getfield 279, 3, 0, []) (List.mem_of_getElem? (i := 24) rfl)) (j := 41) rfl rfl rfl hp c3 ?_
        refine zp_call (pc := 51) (how := 0) (idx := 307) (mi := 220) (S := []) hx hb hE hw heff hrm (zX_pu hW) rfl (j := 22) rfl rfl (by decide +kernel) (zd_X12_behindTest (51, .invokevirtual 307, 3, 0, []) (List.mem_of_getElem? (i := 25) rfl)) [(a : Int), 29, (ncs : Int)] rfl ⟨zp_o2 hp, zp_o0 (by decide) (by decide) (by decide) (by decide), zp_o0 (by omega) (by omega) (by omega) (by omega), trivial⟩ (Nat.le_of_ble_eq_true rfl) (show Gs a 29 < 400 by omega) (fun al hal rnp Pp Gp hextp hfrp hokp hcsp hpsip => ?_)
        obtain rfl := List.mem_singleton.mp hal
        obtain ⟨rfl, hp1, hp2, hp3⟩ := hpsip
        have hp1 : Gp a 29 = Gs a 29 + 1 := hp1
        have hp2 : ∀ j : Nat, zv Gp a 27 j = if j = (Gs a 29).toNat then 29 else zv Gs a 27 j := hp2
        have hp3 : ∀ j : Nat, zv Gp a 28 j = if j = (Gs a 29).toNat then (ncs : Int) else zv Gs a 28 j := hp3
        have p24 : Gp a 24 = (b24 : Int) := (zp_nf hfrp hp rfl).trans s24
        have p25 : Gp a 25 = (b25 : Int) := (zp_nf hfrp hp rfl).trans s25
        have p27 : Gp a 27 = (b27 : Int) := (zp_nf hfrp hp rfl).trans s27
        have p28 : Gp a 28 = (b28 : Int) := (zp_nf hfrp hp rfl).trans s28
        have p13 : Gp a 13 = zp_n u.2.1 a 13 := (zp_nf hfrp hp rfl).trans s13
        have p14 : Gp a 14 = zp_n u.2.1 a 14 := (zp_nf hfrp hp rfl).trans s14
        have p15 : Gp a 15 = zp_n u.2.1 a 15 := (zp_nf hfrp hp rfl).trans s15
        have p16 : Gp a 16 = zp_n u.2.1 a 16 := (zp_nf hfrp hp rfl).trans s16
        have p19 : Gp a 19 = zp_n u.2.1 a 19 := (zp_nf hfrp hp rfl).trans s19
        have p23 : Gp a 23 = (ncs : Int) := (zp_nf hfrp hp rfl).trans c3
        refine zp_load (pc := 54) hx hb (zd_X12_behindTest (54, .aload_n 0, 1, 0, []) (List.mem_of_getElem? (i := 26) rfl)) rfl (j := 1) rfl ?_
        refine zp_load (pc := 55) hx hb (zd_X12_behindTest (55, .iload_n 1, 1, 0, []) (List.mem_of_getElem? (i := 27) rfl)) rfl (j := 0) rfl ?_
        refine zp_if (pc := 56) (tgt := 64) hx hb (zd_X12_behindTest (56, .ifCond .eq 8, 3, 0, []) (List.mem_of_getElem? (i := 28) rfl)) rfl (fun (hc129 : an = 0) => ?_) (fun (hc129 : ¬ (an = 0)) => ?_)
        · refine zp_const (pc := 64) hx hb (zd_X12_behindTest (64, .bipush 30, 2, 0, []) (List.mem_of_getElem? (i := 31) rfl)) rfl rfl ?_
          refine zp_const (pc := 66) hx hb (zd_X12_behindTest (66, .iconst 0, 1, 0, []) (List.mem_of_getElem? (i := 32) rfl)) rfl rfl ?_
          refine zp_call (pc := 67) (how := 0) (idx := 288) (mi := 227) (S := []) hx hb hE hw heff hrm (zX_em hW) rfl (j := 29) rfl rfl (by decide +kernel) (zd_X12_behindTest (67, .invokevirtual 288, 3, 0, []) (List.mem_of_getElem? (i := 33) rfl)) [(a : Int), 30, 0] rfl ⟨zp_o2 hp, zp_o0 (by decide) (by decide) (by decide) (by decide), zp_o0 (by decide) (by decide) (by decide) (by decide), trivial⟩ (Nat.le_of_ble_eq_true rfl) (show Gp a 23 < 400 by omega) (fun al hal rne Pe Ge hexte hfre hoke hcse hpsie => ?_)
          obtain rfl := List.mem_singleton.mp hal
          obtain ⟨rfl, he1, he2, he3⟩ := hpsie
          have he1 : Ge a 23 = Gp a 23 + 1 := he1
          have he2 : ∀ j : Nat, zv Ge a 24 j = if j = (Gp a 23).toNat then 30 else zv Gp a 24 j := he2
          have he3 : ∀ j : Nat, zv Ge a 25 j = if j = (Gp a 23).toNat then 0 else zv Gp a 25 j := he3
          have e24 : Ge a 24 = (b24 : Int) := (zp_nf hfre hp rfl).trans p24
          have e25 : Ge a 25 = (b25 : Int) := (zp_nf hfre hp rfl).trans p25
          have e27 : Ge a 27 = (b27 : Int) := (zp_nf hfre hp rfl).trans p27
          have e28 : Ge a 28 = (b28 : Int) := (zp_nf hfre hp rfl).trans p28
          have e13 : Ge a 13 = zp_n u.2.1 a 13 := (zp_nf hfre hp rfl).trans p13
          have e14 : Ge a 14 = zp_n u.2.1 a 14 := (zp_nf hfre hp rfl).trans p14
          have e15 : Ge a 15 = zp_n u.2.1 a 15 := (zp_nf hfre hp rfl).trans p15
          have e16 : Ge a 16 = zp_n u.2.1 a 16 := (zp_nf hfre hp rfl).trans p16
          have e19 : Ge a 19 = zp_n u.2.1 a 19 := (zp_nf hfre hp rfl).trans p19
          refine zp_load (pc := 70) hx hb (zd_X12_behindTest (70, .aload_n 0, 1, 0, []) (List.mem_of_getElem? (i := 34) rfl)) rfl (j := 1) rfl ?_
          have hq15 : Ge a 15 = (zp_n u.2.1 a 15) := e15
          have hq13 : Ge a 13 = (zp_n u.2.1 a 13) := e13
          refine zp_call (pc := 71) (how := 0) (idx := 244) (mi := 212) (S := []) hx hb hE hw heff hrm (zX_nx hW) rfl (j := 14) rfl rfl (by decide +kernel) (zd_X12_behindTest (71, .invokevirtual 244, 3, 0, []) (List.mem_of_getElem? (i := 35) rfl)) [(a : Int)] rfl ⟨zp_o2 hp, trivial⟩ (Nat.le_of_ble_eq_true rfl) (show 0 ≤ Ge a 15 ∧ Ge a 15 ≤ Ge a 13 by omega) (fun al hal rnn Pn Gn hextn hfrn hokn hcsn hpsin => ?_)
          obtain rfl := List.mem_singleton.mp hal
          obtain ⟨rfl, hxn⟩ := hpsin
          have hxn : Ge a 15 ≤ Gn a 14 ∧ Gn a 14 ≤ Gn a 15 ∧ Gn a 15 ≤ Ge a 13 ∧ 0 ≤ Gn a 16 ∧ Gn a 16 ≤ 3 ∧ (Gn a 16 ≠ 0 → Gn a 14 < Gn a 15) := hxn
          have n13 : Gn a 13 = (zp_n u.2.1 a 13) := (zp_nf hfrn hp rfl).trans (e13)
          have n19 : Gn a 19 = (zp_n u.2.1 a 19) := (zp_nf hfrn hp rfl).trans (e19)
          have q24 : Gn a 24 = (b24 : Int) := (zp_nf hfrn hp rfl).trans e24
          have q25 : Gn a 25 = (b25 : Int) := (zp_nf hfrn hp rfl).trans e25
          have q27 : Gn a 27 = (b27 : Int) := (zp_nf hfrn hp rfl).trans e27
          have q28 : Gn a 28 = (b28 : Int) := (zp_nf hfrn hp rfl).trans e28
          refine zp_const (pc := 74) hx hb (zd_X12_behindTest (74, .iconst 0, 1, 0, []) (List.mem_of_getElem? (i := 36) rfl)) rfl rfl ?_
          refine zp_iret (pc := 75) (n := 0) hx hb hE hQ hU5 rfl (by decide) (zd_X12_behindTest (75, .ireturn, 1, 0, []) (List.mem_of_getElem? (i := 37) rfl)) (j := 0) rfl (zp_o0 (by omega) (by omega) (by omega) (by omega)) ?_
          rw [hps]
          refine ⟨rfl, by show 0 = 0 ∨ 0 = 2 ∨ 0 = 4; decide, fun z => absurd z (by decide), fun first hz => ⟨fun _ => ?_, fun z => absurd z (by decide)⟩⟩
          have hz : zs first 1 0 a (zp_n u.2.1) := hz
          obtain ⟨-, nc2, pd2, e1, e2, e3⟩ := hz
          obtain rfl : nc = nc2 := by omega
          obtain rfl : pd = pd2 := by omega
          obtain ⟨y3, y4⟩ := zs_sp_settle e3 c10 c5
          have l1 : ∀ i, i < pds → zv Gp a 27 i = zv (zp_n u.2.1) a 27 i := fun i hi => by rw [hp2, c4, Int.toNat_natCast, if_neg (by omega), c8]
          have l2 : ∀ i, i < pds → zv Gp a 28 i = zv (zp_n u.2.1) a 28 i := fun i hi => by rw [hp3, c4, Int.toNat_natCast, if_neg (by omega), c9]
          have l3 : zv Gp a 27 pds = 29 := by rw [hp2, c4, Int.toNat_natCast, if_pos rfl]
          have l4 : zv Gp a 28 pds = (ncs : Int) := by rw [hp3, c4, Int.toNat_natCast, if_pos rfl]
          have pv24 : ∀ j, zv Gp a 24 j = zv Gs a 24 j := fun j => by rw [zv_eq p24, zv_eq s24, zp_nc hfrp hq24 rfl]
          have pv25 : ∀ j, zv Gp a 25 j = zv Gs a 25 j := fun j => by rw [zv_eq p25, zv_eq s25, zp_nc hfrp hq25 rfl]
          have o1 : ∀ q, q < ncs → zv Ge a 24 q = zv Gs a 24 q := fun q hq => by rw [he2, p23, Int.toNat_natCast, if_neg (by omega), pv24]
          have o2 : ∀ q, q < ncs → zv Ge a 25 q = zv Gs a 25 q := fun q hq => by rw [he3, p23, Int.toNat_natCast, if_neg (by omega), pv25]
          have o3 : zv Ge a 24 ncs = 30 := by rw [he2, p23, Int.toNat_natCast, if_pos rfl]
          have hlt : zp_n u.2.1 a 14 + 1 ≤ Gn a 14 := by omega
          have y5 := zs_sp_ao (op' := zv Ge a 24) (ar' := zv Ge a 25) (pl' := zv Gp a 27) (pa' := zv Gp a 28) y3 hlt l1 l2 (by omega) l4 o1 o2 (by omega)
          have hff := y3.1.1
          have y13 : Gn a 13 = zp_n u.2.1 a 13 := (zp_nf hfrn hp rfl).trans e13
          have y19 : Gn a 19 = zp_n u.2.1 a 19 := (zp_nf hfrn hp rfl).trans e19
          have q23 : Gn a 23 = ((ncs + 1 : Nat) : Int) := by rw [show Gn a 23 = Ge a 23 from zp_nf hfrn hp rfl, he1, p23]; rfl
          have q29 : Gn a 29 = ((pds + 1 : Nat) : Int) := by rw [show Gn a 29 = Gp a 29 from (zp_nf hfrn hp rfl).trans (zp_nf hfre hp rfl), hp1, c4]; rfl
          have qv24 : ∀ j, zv Gn a 24 j = zv Ge a 24 j := fun j => by rw [zv_eq q24, zv_eq e24, zp_nc hfrn hq24 rfl]
          have qv25 : ∀ j, zv Gn a 25 j = zv Ge a 25 j := fun j => by rw [zv_eq q25, zv_eq e25, zp_nc hfrn hq25 rfl]
          have qv27 : ∀ j, zv Gn a 27 j = zv Gp a 27 j := fun j => by rw [zv_eq q27, zv_eq p27, zp_nc hfrn hq27 rfl, zp_nc hfre hq27 rfl]
          have qv28 : ∀ j, zv Gn a 28 j = zv Gp a 28 j := fun j => by rw [zv_eq q28, zv_eq p28, zp_nc hfrn hq28 rfl, zp_nc hfre hq28 rfl]
          show zs_go a first 0 0 (zp_n u.2.1) Gn
          refine ⟨zs_mk y5 (by unfold zs_tk; omega) q23 q29 y19 rfl qv24 qv25 qv27 qv28, fun q hq => ⟨by rw [qv24, o1 q (by omega)]; exact (y4 q hq).1, by rw [qv25, o2 q (by omega)]; exact (y4 q hq).2⟩, by omega, fun z => ⟨by omega, by omega⟩⟩
        · refine zp_const (pc := 59) hx hb (zd_X12_behindTest (59, .bipush 29, 2, 0, []) (List.mem_of_getElem? (i := 29) rfl)) rfl rfl ?_
          refine zp_goto (tgt := 66) (pc := 61) hx hb (zd_X12_behindTest (61, .goto 5, 3, 0, []) (List.mem_of_getElem? (i := 30) rfl)) rfl ?_
          refine zp_const (pc := 66) hx hb (zd_X12_behindTest (66, .iconst 0, 1, 0, []) (List.mem_of_getElem? (i := 32) rfl)) rfl rfl ?_
          refine zp_call (pc := 67) (how := 0) (idx := 288) (mi := 227) (S := []) hx hb hE hw heff hrm (zX_em hW) rfl (j := 29) rfl rfl (by decide +kernel) (zd_X12_behindTest (67, .invokevirtual 288, 3, 0, []) (List.mem_of_getElem? (i := 33) rfl)) [(a : Int), 29, 0] rfl ⟨zp_o2 hp, zp_o0 (by decide) (by decide) (by decide) (by decide), zp_o0 (by decide) (by decide) (by decide) (by decide), trivial⟩ (Nat.le_of_ble_eq_true rfl) (show Gp a 23 < 400 by omega) (fun al hal rne Pe Ge hexte hfre hoke hcse hpsie => ?_)
          obtain rfl := List.mem_singleton.mp hal
          obtain ⟨rfl, he1, he2, he3⟩ := hpsie
          have he1 : Ge a 23 = Gp a 23 + 1 := he1
          have he2 : ∀ j : Nat, zv Ge a 24 j = if j = (Gp a 23).toNat then 29 else zv Gp a 24 j := he2
          have he3 : ∀ j : Nat, zv Ge a 25 j = if j = (Gp a 23).toNat then 0 else zv Gp a 25 j := he3
          have e24 : Ge a 24 = (b24 : Int) := (zp_nf hfre hp rfl).trans p24
          have e25 : Ge a 25 = (b25 : Int) := (zp_nf hfre hp rfl).trans p25
          have e27 : Ge a 27 = (b27 : Int) := (zp_nf hfre hp rfl).trans p27
          have e28 : Ge a 28 = (b28 : Int) := (zp_nf hfre hp rfl).trans p28
          have e13 : Ge a 13 = zp_n u.2.1 a 13 := (zp_nf hfre hp rfl).trans p13
          have e14 : Ge a 14 = zp_n u.2.1 a 14 := (zp_nf hfre hp rfl).trans p14
          have e15 : Ge a 15 = zp_n u.2.1 a 15 := (zp_nf hfre hp rfl).trans p15
          have e16 : Ge a 16 = zp_n u.2.1 a 16 := (zp_nf hfre hp rfl).trans p16
          have e19 : Ge a 19 = zp_n u.2.1 a 19 := (zp_nf hfre hp rfl).trans p19
          refine zp_load (pc := 70) hx hb (zd_X12_behindTest (70, .aload_n 0, 1, 0, []) (List.mem_of_getElem? (i := 34) rfl)) rfl (j := 1) rfl ?_
          have hq15 : Ge a 15 = (zp_n u.2.1 a 15) := e15
          have hq13 : Ge a 13 = (zp_n u.2.1 a 13) := e13
          refine zp_call (pc := 71) (how := 0) (idx := 244) (mi := 212) (S := []) hx hb hE hw heff hrm (zX_nx hW) rfl (j := 14) rfl rfl (by decide +kernel) (zd_X12_behindTest (71, .invokevirtual 244, 3, 0, []) (List.mem_of_getElem? (i := 35) rfl)) [(a : Int)] rfl ⟨zp_o2 hp, trivial⟩ (Nat.le_of_ble_eq_true rfl) (show 0 ≤ Ge a 15 ∧ Ge a 15 ≤ Ge a 13 by omega) (fun al hal rnn Pn Gn hextn hfrn hokn hcsn hpsin => ?_)
          obtain rfl := List.mem_singleton.mp hal
          obtain ⟨rfl, hxn⟩ := hpsin
          have hxn : Ge a 15 ≤ Gn a 14 ∧ Gn a 14 ≤ Gn a 15 ∧ Gn a 15 ≤ Ge a 13 ∧ 0 ≤ Gn a 16 ∧ Gn a 16 ≤ 3 ∧ (Gn a 16 ≠ 0 → Gn a 14 < Gn a 15) := hxn
          have n13 : Gn a 13 = (zp_n u.2.1 a 13) := (zp_nf hfrn hp rfl).trans (e13)
          have n19 : Gn a 19 = (zp_n u.2.1 a 19) := (zp_nf hfrn hp rfl).trans (e19)
          have q24 : Gn a 24 = (b24 : Int) := (zp_nf hfrn hp rfl).trans e24
          have q25 : Gn a 25 = (b25 : Int) := (zp_nf hfrn hp rfl).trans e25
          have q27 : Gn a 27 = (b27 : Int) := (zp_nf hfrn hp rfl).trans e27
          have q28 : Gn a 28 = (b28 : Int) := (zp_nf hfrn hp rfl).trans e28
          refine zp_const (pc := 74) hx hb (zd_X12_behindTest (74, .iconst 0, 1, 0, []) (List.mem_of_getElem? (i := 36) rfl)) rfl rfl ?_
          refine zp_iret (pc := 75) (n := 0) hx hb hE hQ hU5 rfl (by decide) (zd_X12_behindTest (75, .ireturn, 1, 0, []) (List.mem_of_getElem? (i := 37) rfl)) (j := 0) rfl (zp_o0 (by omega) (by omega) (by omega) (by omega)) ?_
          rw [hps]
          refine ⟨rfl, by show 0 = 0 ∨ 0 = 2 ∨ 0 = 4; decide, fun z => absurd z (by decide), fun first hz => ⟨fun _ => ?_, fun z => absurd z (by decide)⟩⟩
          have hz : zs first 1 0 a (zp_n u.2.1) := hz
          obtain ⟨-, nc2, pd2, e1, e2, e3⟩ := hz
          obtain rfl : nc = nc2 := by omega
          obtain rfl : pd = pd2 := by omega
          obtain ⟨y3, y4⟩ := zs_sp_settle e3 c10 c5
          have l1 : ∀ i, i < pds → zv Gp a 27 i = zv (zp_n u.2.1) a 27 i := fun i hi => by rw [hp2, c4, Int.toNat_natCast, if_neg (by omega), c8]
          have l2 : ∀ i, i < pds → zv Gp a 28 i = zv (zp_n u.2.1) a 28 i := fun i hi => by rw [hp3, c4, Int.toNat_natCast, if_neg (by omega), c9]
          have l3 : zv Gp a 27 pds = 29 := by rw [hp2, c4, Int.toNat_natCast, if_pos rfl]
          have l4 : zv Gp a 28 pds = (ncs : Int) := by rw [hp3, c4, Int.toNat_natCast, if_pos rfl]
          have pv24 : ∀ j, zv Gp a 24 j = zv Gs a 24 j := fun j => by rw [zv_eq p24, zv_eq s24, zp_nc hfrp hq24 rfl]
          have pv25 : ∀ j, zv Gp a 25 j = zv Gs a 25 j := fun j => by rw [zv_eq p25, zv_eq s25, zp_nc hfrp hq25 rfl]
          have o1 : ∀ q, q < ncs → zv Ge a 24 q = zv Gs a 24 q := fun q hq => by rw [he2, p23, Int.toNat_natCast, if_neg (by omega), pv24]
          have o2 : ∀ q, q < ncs → zv Ge a 25 q = zv Gs a 25 q := fun q hq => by rw [he3, p23, Int.toNat_natCast, if_neg (by omega), pv25]
          have o3 : zv Ge a 24 ncs = 29 := by rw [he2, p23, Int.toNat_natCast, if_pos rfl]
          have hlt : zp_n u.2.1 a 14 + 1 ≤ Gn a 14 := by omega
          have y5 := zs_sp_ao (op' := zv Ge a 24) (ar' := zv Ge a 25) (pl' := zv Gp a 27) (pa' := zv Gp a 28) y3 hlt l1 l2 (by omega) l4 o1 o2 (by omega)
          have hff := y3.1.1
          have y13 : Gn a 13 = zp_n u.2.1 a 13 := (zp_nf hfrn hp rfl).trans e13
          have y19 : Gn a 19 = zp_n u.2.1 a 19 := (zp_nf hfrn hp rfl).trans e19
          have q23 : Gn a 23 = ((ncs + 1 : Nat) : Int) := by rw [show Gn a 23 = Ge a 23 from zp_nf hfrn hp rfl, he1, p23]; rfl
          have q29 : Gn a 29 = ((pds + 1 : Nat) : Int) := by rw [show Gn a 29 = Gp a 29 from (zp_nf hfrn hp rfl).trans (zp_nf hfre hp rfl), hp1, c4]; rfl
          have qv24 : ∀ j, zv Gn a 24 j = zv Ge a 24 j := fun j => by rw [zv_eq q24, zv_eq e24, zp_nc hfrn hq24 rfl]
          have qv25 : ∀ j, zv Gn a 25 j = zv Ge a 25 j := fun j => by rw [zv_eq q25, zv_eq e25, zp_nc hfrn hq25 rfl]
          have qv27 : ∀ j, zv Gn a 27 j = zv Gp a 27 j := fun j => by rw [zv_eq q27, zv_eq p27, zp_nc hfrn hq27 rfl, zp_nc hfre hq27 rfl]
          have qv28 : ∀ j, zv Gn a 28 j = zv Gp a 28 j := fun j => by rw [zv_eq q28, zv_eq p28, zp_nc hfrn hq28 rfl, zp_nc hfre hq28 rfl]
          show zs_go a first 0 0 (zp_n u.2.1) Gn
          refine ⟨zs_mk y5 (by unfold zs_tk; omega) q23 q29 y19 rfl qv24 qv25 qv27 qv28, fun q hq => ⟨by rw [qv24, o1 q (by omega)]; exact (y4 q hq).1, by rw [qv25, o2 q (by omega)]; exact (y4 q hq).2⟩, by omega, fun z => ⟨by omega, by omega⟩⟩
    · refine zp_const (pc := 27) hx hb (zd_X12_behindTest (27, .iconst 2, 1, 0, []) (List.mem_of_getElem? (i := 13) rfl)) rfl rfl ?_
      refine zp_goto (tgt := 32) (pc := 28) hx hb (zd_X12_behindTest (28, .goto 4, 3, 0, []) (List.mem_of_getElem? (i := 14) rfl)) rfl ?_
      refine zp_call (pc := 32) (how := 0) (idx := 344) (mi := 231) (S := []) hx hb hE hw heff hrm (zX_se hW) rfl (j := 33) rfl rfl (by decide +kernel) (zd_X12_behindTest (32, .invokevirtual 344, 3, 0, []) (List.mem_of_getElem? (i := 16) rfl)) [(a : Int), 2] rfl ⟨zp_o2 hp, zp_o0 (by omega) (by omega) (by omega) (by omega), trivial⟩ (Nat.le_of_ble_eq_true rfl) ⟨f0, nc, pd, zp_n u.2.1 a 14, hnc, hpd, hsp, by omega, (show (1 : Int) ≤ 2 by decide)⟩ (fun al hal rns Ps Gs hexts hfrs hoks hcss hpsis => ?_)
      obtain rfl := List.mem_singleton.mp hal
      obtain ⟨rfl, hsets, htops⟩ := hpsis
      have hsets : zs_set 2 a (zp_n u.2.1) Gs := hsets
      have htops : ∀ pd' : Nat, Gs a 29 = pd' → pd' = 0 ∨ zbinds (zv (zp_n u.2.1) a 27 (pd' - 1)) < 2 := htops
      obtain ⟨nc1, pd1, ncs, pds, c1, c2, c3, c4, c5, c6, c7, c8, c9, c10⟩ := hsets
      obtain rfl : nc = nc1 := by omega
      obtain rfl : pd = pd1 := by omega
      have s24 : Gs a 24 = (b24 : Int) := (zp_nf hfrs hp rfl).trans hb24
      have s25 : Gs a 25 = (b25 : Int) := (zp_nf hfrs hp rfl).trans hb25
      have s27 : Gs a 27 = (b27 : Int) := (zp_nf hfrs hp rfl).trans hb27
      have s28 : Gs a 28 = (b28 : Int) := (zp_nf hfrs hp rfl).trans hb28
      have s13 : Gs a 13 = zp_n u.2.1 a 13 := zp_nf hfrs hp rfl
      have s14 : Gs a 14 = zp_n u.2.1 a 14 := zp_nf hfrs hp rfl
      have s15 : Gs a 15 = zp_n u.2.1 a 15 := zp_nf hfrs hp rfl
      have s16 : Gs a 16 = zp_n u.2.1 a 16 := zp_nf hfrs hp rfl
      have s19 : Gs a 19 = zp_n u.2.1 a 19 := zp_nf hfrs hp rfl
      obtain ⟨b1, -, -⟩ := c10 f0 (zp_n u.2.1 a 14) hsp
      have b2 := b1.2.1
      have b3 := b1.2.2.1
      have hlt0 := t6 (by omega)
      refine zp_load (pc := 35) hx hb (zd_X12_behindTest (35, .aload_n 0, 1, 0, []) (List.mem_of_getElem? (i := 17) rfl)) rfl (j := 1) rfl ?_
      refine zp_load (pc := 36) hx hb (zd_X12_behindTest (36, .iload_n 1, 1, 0, []) (List.mem_of_getElem? (i := 18) rfl)) rfl (j := 0) rfl ?_
      refine zp_if (pc := 37) (tgt := 45) hx hb (zd_X12_behindTest (37, .ifCond .eq 8, 3, 0, []) (List.mem_of_getElem? (i := 19) rfl)) rfl (fun (hc130 : an = 0) => ?_) (fun (hc130 : ¬ (an = 0)) => ?_)
      · refine zp_const (pc := 45) hx hb (zd_X12_behindTest (45, .bipush 30, 2, 0, []) (List.mem_of_getElem? (i := 22) rfl)) rfl rfl ?_
        refine zp_load (pc := 47) hx hb (zd_X12_behindTest (47, .aload_n 0, 1, 0, []) (List.mem_of_getElem? (i := 23) rfl)) rfl (j := 1) rfl ?_
        refine zp_getf (n := (ncs : Int)) (pc := 48) hx hb hE hw (zd_X12_behindTest (48, .getfield 279, 3, 0, []) (List.mem_of_getElem? (i := 24) rfl)) (j := 41) rfl rfl rfl hp c3 ?_
        refine zp_call (pc := 51) (how := 0) (idx := 307) (mi := 220) (S := []) hx hb hE hw heff hrm (zX_pu hW) rfl (j := 22) rfl rfl (by decide +kernel) (zd_X12_behindTest (51, .invokevirtual 307, 3, 0, []) (List.mem_of_getElem? (i := 25) rfl)) [(a : Int), 30, (ncs : Int)] rfl ⟨zp_o2 hp, zp_o0 (by decide) (by decide) (by decide) (by decide), zp_o0 (by omega) (by omega) (by omega) (by omega), trivial⟩ (Nat.le_of_ble_eq_true rfl) (show Gs a 29 < 400 by omega) (fun al hal rnp Pp Gp hextp hfrp hokp hcsp hpsip => ?_)
        obtain rfl := List.mem_singleton.mp hal
        obtain ⟨rfl, hp1, hp2, hp3⟩ := hpsip
        have hp1 : Gp a 29 = Gs a 29 + 1 := hp1
        have hp2 : ∀ j : Nat, zv Gp a 27 j = if j = (Gs a 29).toNat then 30 else zv Gs a 27 j := hp2
        have hp3 : ∀ j : Nat, zv Gp a 28 j = if j = (Gs a 29).toNat then (ncs : Int) else zv Gs a 28 j := hp3
        have p24 : Gp a 24 = (b24 : Int) := (zp_nf hfrp hp rfl).trans s24
        have p25 : Gp a 25 = (b25 : Int) := (zp_nf hfrp hp rfl).trans s25
        have p27 : Gp a 27 = (b27 : Int) := (zp_nf hfrp hp rfl).trans s27
        have p28 : Gp a 28 = (b28 : Int) := (zp_nf hfrp hp rfl).trans s28
        have p13 : Gp a 13 = zp_n u.2.1 a 13 := (zp_nf hfrp hp rfl).trans s13
        have p14 : Gp a 14 = zp_n u.2.1 a 14 := (zp_nf hfrp hp rfl).trans s14
        have p15 : Gp a 15 = zp_n u.2.1 a 15 := (zp_nf hfrp hp rfl).trans s15
        have p16 : Gp a 16 = zp_n u.2.1 a 16 := (zp_nf hfrp hp rfl).trans s16
        have p19 : Gp a 19 = zp_n u.2.1 a 19 := (zp_nf hfrp hp rfl).trans s19
        have p23 : Gp a 23 = (ncs : Int) := (zp_nf hfrp hp rfl).trans c3
        refine zp_load (pc := 54) hx hb (zd_X12_behindTest (54, .aload_n 0, 1, 0, []) (List.mem_of_getElem? (i := 26) rfl)) rfl (j := 1) rfl ?_
        refine zp_load (pc := 55) hx hb (zd_X12_behindTest (55, .iload_n 1, 1, 0, []) (List.mem_of_getElem? (i := 27) rfl)) rfl (j := 0) rfl ?_
        refine zp_if (pc := 56) (tgt := 64) hx hb (zd_X12_behindTest (56, .ifCond .eq 8, 3, 0, []) (List.mem_of_getElem? (i := 28) rfl)) rfl (fun (hc131 : an = 0) => ?_) (fun (hc131 : ¬ (an = 0)) => ?_)
        · refine zp_const (pc := 64) hx hb (zd_X12_behindTest (64, .bipush 30, 2, 0, []) (List.mem_of_getElem? (i := 31) rfl)) rfl rfl ?_
          refine zp_const (pc := 66) hx hb (zd_X12_behindTest (66, .iconst 0, 1, 0, []) (List.mem_of_getElem? (i := 32) rfl)) rfl rfl ?_
          refine zp_call (pc := 67) (how := 0) (idx := 288) (mi := 227) (S := []) hx hb hE hw heff hrm (zX_em hW) rfl (j := 29) rfl rfl (by decide +kernel) (zd_X12_behindTest (67, .invokevirtual 288, 3, 0, []) (List.mem_of_getElem? (i := 33) rfl)) [(a : Int), 30, 0] rfl ⟨zp_o2 hp, zp_o0 (by decide) (by decide) (by decide) (by decide), zp_o0 (by decide) (by decide) (by decide) (by decide), trivial⟩ (Nat.le_of_ble_eq_true rfl) (show Gp a 23 < 400 by omega) (fun al hal rne Pe Ge hexte hfre hoke hcse hpsie => ?_)
          obtain rfl := List.mem_singleton.mp hal
          obtain ⟨rfl, he1, he2, he3⟩ := hpsie
          have he1 : Ge a 23 = Gp a 23 + 1 := he1
          have he2 : ∀ j : Nat, zv Ge a 24 j = if j = (Gp a 23).toNat then 30 else zv Gp a 24 j := he2
          have he3 : ∀ j : Nat, zv Ge a 25 j = if j = (Gp a 23).toNat then 0 else zv Gp a 25 j := he3
          have e24 : Ge a 24 = (b24 : Int) := (zp_nf hfre hp rfl).trans p24
          have e25 : Ge a 25 = (b25 : Int) := (zp_nf hfre hp rfl).trans p25
          have e27 : Ge a 27 = (b27 : Int) := (zp_nf hfre hp rfl).trans p27
          have e28 : Ge a 28 = (b28 : Int) := (zp_nf hfre hp rfl).trans p28
          have e13 : Ge a 13 = zp_n u.2.1 a 13 := (zp_nf hfre hp rfl).trans p13
          have e14 : Ge a 14 = zp_n u.2.1 a 14 := (zp_nf hfre hp rfl).trans p14
          have e15 : Ge a 15 = zp_n u.2.1 a 15 := (zp_nf hfre hp rfl).trans p15
          have e16 : Ge a 16 = zp_n u.2.1 a 16 := (zp_nf hfre hp rfl).trans p16
          have e19 : Ge a 19 = zp_n u.2.1 a 19 := (zp_nf hfre hp rfl).trans p19
          refine zp_load (pc := 70) hx hb (zd_X12_behindTest (70, .aload_n 0, 1, 0, []) (List.mem_of_getElem? (i := 34) rfl)) rfl (j := 1) rfl ?_
          have hq15 : Ge a 15 = (zp_n u.2.1 a 15) := e15
          have hq13 : Ge a 13 = (zp_n u.2.1 a 13) := e13
          refine zp_call (pc := 71) (how := 0) (idx := 244) (mi := 212) (S := []) hx hb hE hw heff hrm (zX_nx hW) rfl (j := 14) rfl rfl (by decide +kernel) (zd_X12_behindTest (71, .invokevirtual 244, 3, 0, []) (List.mem_of_getElem? (i := 35) rfl)) [(a : Int)] rfl ⟨zp_o2 hp, trivial⟩ (Nat.le_of_ble_eq_true rfl) (show 0 ≤ Ge a 15 ∧ Ge a 15 ≤ Ge a 13 by omega) (fun al hal rnn Pn Gn hextn hfrn hokn hcsn hpsin => ?_)
          obtain rfl := List.mem_singleton.mp hal
          obtain ⟨rfl, hxn⟩ := hpsin
          have hxn : Ge a 15 ≤ Gn a 14 ∧ Gn a 14 ≤ Gn a 15 ∧ Gn a 15 ≤ Ge a 13 ∧ 0 ≤ Gn a 16 ∧ Gn a 16 ≤ 3 ∧ (Gn a 16 ≠ 0 → Gn a 14 < Gn a 15) := hxn
          have n13 : Gn a 13 = (zp_n u.2.1 a 13) := (zp_nf hfrn hp rfl).trans (e13)
          have n19 : Gn a 19 = (zp_n u.2.1 a 19) := (zp_nf hfrn hp rfl).trans (e19)
          have q24 : Gn a 24 = (b24 : Int) := (zp_nf hfrn hp rfl).trans e24
          have q25 : Gn a 25 = (b25 : Int) := (zp_nf hfrn hp rfl).trans e25
          have q27 : Gn a 27 = (b27 : Int) := (zp_nf hfrn hp rfl).trans e27
          have q28 : Gn a 28 = (b28 : Int) := (zp_nf hfrn hp rfl).trans e28
          refine zp_const (pc := 74) hx hb (zd_X12_behindTest (74, .iconst 0, 1, 0, []) (List.mem_of_getElem? (i := 36) rfl)) rfl rfl ?_
          refine zp_iret (pc := 75) (n := 0) hx hb hE hQ hU5 rfl (by decide) (zd_X12_behindTest (75, .ireturn, 1, 0, []) (List.mem_of_getElem? (i := 37) rfl)) (j := 0) rfl (zp_o0 (by omega) (by omega) (by omega) (by omega)) ?_
          rw [hps]
          refine ⟨rfl, by show 0 = 0 ∨ 0 = 2 ∨ 0 = 4; decide, fun z => absurd z (by decide), fun first hz => ⟨fun _ => ?_, fun z => absurd z (by decide)⟩⟩
          have hz : zs first 1 0 a (zp_n u.2.1) := hz
          obtain ⟨-, nc2, pd2, e1, e2, e3⟩ := hz
          obtain rfl : nc = nc2 := by omega
          obtain rfl : pd = pd2 := by omega
          obtain ⟨y3, y4⟩ := zs_sp_settle e3 c10 c5
          have l1 : ∀ i, i < pds → zv Gp a 27 i = zv (zp_n u.2.1) a 27 i := fun i hi => by rw [hp2, c4, Int.toNat_natCast, if_neg (by omega), c8]
          have l2 : ∀ i, i < pds → zv Gp a 28 i = zv (zp_n u.2.1) a 28 i := fun i hi => by rw [hp3, c4, Int.toNat_natCast, if_neg (by omega), c9]
          have l3 : zv Gp a 27 pds = 30 := by rw [hp2, c4, Int.toNat_natCast, if_pos rfl]
          have l4 : zv Gp a 28 pds = (ncs : Int) := by rw [hp3, c4, Int.toNat_natCast, if_pos rfl]
          have pv24 : ∀ j, zv Gp a 24 j = zv Gs a 24 j := fun j => by rw [zv_eq p24, zv_eq s24, zp_nc hfrp hq24 rfl]
          have pv25 : ∀ j, zv Gp a 25 j = zv Gs a 25 j := fun j => by rw [zv_eq p25, zv_eq s25, zp_nc hfrp hq25 rfl]
          have o1 : ∀ q, q < ncs → zv Ge a 24 q = zv Gs a 24 q := fun q hq => by rw [he2, p23, Int.toNat_natCast, if_neg (by omega), pv24]
          have o2 : ∀ q, q < ncs → zv Ge a 25 q = zv Gs a 25 q := fun q hq => by rw [he3, p23, Int.toNat_natCast, if_neg (by omega), pv25]
          have o3 : zv Ge a 24 ncs = 30 := by rw [he2, p23, Int.toNat_natCast, if_pos rfl]
          have hlt : zp_n u.2.1 a 14 + 1 ≤ Gn a 14 := by omega
          have y5 := zs_sp_ao (op' := zv Ge a 24) (ar' := zv Ge a 25) (pl' := zv Gp a 27) (pa' := zv Gp a 28) y3 hlt l1 l2 (by omega) l4 o1 o2 (by omega)
          have hff := y3.1.1
          have y13 : Gn a 13 = zp_n u.2.1 a 13 := (zp_nf hfrn hp rfl).trans e13
          have y19 : Gn a 19 = zp_n u.2.1 a 19 := (zp_nf hfrn hp rfl).trans e19
          have q23 : Gn a 23 = ((ncs + 1 : Nat) : Int) := by rw [show Gn a 23 = Ge a 23 from zp_nf hfrn hp rfl, he1, p23]; rfl
          have q29 : Gn a 29 = ((pds + 1 : Nat) : Int) := by rw [show Gn a 29 = Gp a 29 from (zp_nf hfrn hp rfl).trans (zp_nf hfre hp rfl), hp1, c4]; rfl
          have qv24 : ∀ j, zv Gn a 24 j = zv Ge a 24 j := fun j => by rw [zv_eq q24, zv_eq e24, zp_nc hfrn hq24 rfl]
          have qv25 : ∀ j, zv Gn a 25 j = zv Ge a 25 j := fun j => by rw [zv_eq q25, zv_eq e25, zp_nc hfrn hq25 rfl]
          have qv27 : ∀ j, zv Gn a 27 j = zv Gp a 27 j := fun j => by rw [zv_eq q27, zv_eq p27, zp_nc hfrn hq27 rfl, zp_nc hfre hq27 rfl]
          have qv28 : ∀ j, zv Gn a 28 j = zv Gp a 28 j := fun j => by rw [zv_eq q28, zv_eq p28, zp_nc hfrn hq28 rfl, zp_nc hfre hq28 rfl]
          show zs_go a first 0 0 (zp_n u.2.1) Gn
          refine ⟨zs_mk y5 (by unfold zs_tk; omega) q23 q29 y19 rfl qv24 qv25 qv27 qv28, fun q hq => ⟨by rw [qv24, o1 q (by omega)]; exact (y4 q hq).1, by rw [qv25, o2 q (by omega)]; exact (y4 q hq).2⟩, by omega, fun z => ⟨by omega, by omega⟩⟩
        · refine zp_const (pc := 59) hx hb (zd_X12_behindTest (59, .bipush 29, 2, 0, []) (List.mem_of_getElem? (i := 29) rfl)) rfl rfl ?_
          refine zp_goto (tgt := 66) (pc := 61) hx hb (zd_X12_behindTest (61, .goto 5, 3, 0, []) (List.mem_of_getElem? (i := 30) rfl)) rfl ?_
          refine zp_const (pc := 66) hx hb (zd_X12_behindTest (66, .iconst 0, 1, 0, []) (List.mem_of_getElem? (i := 32) rfl)) rfl rfl ?_
          refine zp_call (pc := 67) (how := 0) (idx := 288) (mi := 227) (S := []) hx hb hE hw heff hrm (zX_em hW) rfl (j := 29) rfl rfl (by decide +kernel) (zd_X12_behindTest (67, .invokevirtual 288, 3, 0, []) (List.mem_of_getElem? (i := 33) rfl)) [(a : Int), 29, 0] rfl ⟨zp_o2 hp, zp_o0 (by decide) (by decide) (by decide) (by decide), zp_o0 (by decide) (by decide) (by decide) (by decide), trivial⟩ (Nat.le_of_ble_eq_true rfl) (show Gp a 23 < 400 by omega) (fun al hal rne Pe Ge hexte hfre hoke hcse hpsie => ?_)
          obtain rfl := List.mem_singleton.mp hal
          obtain ⟨rfl, he1, he2, he3⟩ := hpsie
          have he1 : Ge a 23 = Gp a 23 + 1 := he1
          have he2 : ∀ j : Nat, zv Ge a 24 j = if j = (Gp a 23).toNat then 29 else zv Gp a 24 j := he2
          have he3 : ∀ j : Nat, zv Ge a 25 j = if j = (Gp a 23).toNat then 0 else zv Gp a 25 j := he3
          have e24 : Ge a 24 = (b24 : Int) := (zp_nf hfre hp rfl).trans p24
          have e25 : Ge a 25 = (b25 : Int) := (zp_nf hfre hp rfl).trans p25
          have e27 : Ge a 27 = (b27 : Int) := (zp_nf hfre hp rfl).trans p27
          have e28 : Ge a 28 = (b28 : Int) := (zp_nf hfre hp rfl).trans p28
          have e13 : Ge a 13 = zp_n u.2.1 a 13 := (zp_nf hfre hp rfl).trans p13
          have e14 : Ge a 14 = zp_n u.2.1 a 14 := (zp_nf hfre hp rfl).trans p14
          have e15 : Ge a 15 = zp_n u.2.1 a 15 := (zp_nf hfre hp rfl).trans p15
          have e16 : Ge a 16 = zp_n u.2.1 a 16 := (zp_nf hfre hp rfl).trans p16
          have e19 : Ge a 19 = zp_n u.2.1 a 19 := (zp_nf hfre hp rfl).trans p19
          refine zp_load (pc := 70) hx hb (zd_X12_behindTest (70, .aload_n 0, 1, 0, []) (List.mem_of_getElem? (i := 34) rfl)) rfl (j := 1) rfl ?_
          have hq15 : Ge a 15 = (zp_n u.2.1 a 15) := e15
          have hq13 : Ge a 13 = (zp_n u.2.1 a 13) := e13
          refine zp_call (pc := 71) (how := 0) (idx := 244) (mi := 212) (S := []) hx hb hE hw heff hrm (zX_nx hW) rfl (j := 14) rfl rfl (by decide +kernel) (zd_X12_behindTest (71, .invokevirtual 244, 3, 0, []) (List.mem_of_getElem? (i := 35) rfl)) [(a : Int)] rfl ⟨zp_o2 hp, trivial⟩ (Nat.le_of_ble_eq_true rfl) (show 0 ≤ Ge a 15 ∧ Ge a 15 ≤ Ge a 13 by omega) (fun al hal rnn Pn Gn hextn hfrn hokn hcsn hpsin => ?_)
          obtain rfl := List.mem_singleton.mp hal
          obtain ⟨rfl, hxn⟩ := hpsin
          have hxn : Ge a 15 ≤ Gn a 14 ∧ Gn a 14 ≤ Gn a 15 ∧ Gn a 15 ≤ Ge a 13 ∧ 0 ≤ Gn a 16 ∧ Gn a 16 ≤ 3 ∧ (Gn a 16 ≠ 0 → Gn a 14 < Gn a 15) := hxn
          have n13 : Gn a 13 = (zp_n u.2.1 a 13) := (zp_nf hfrn hp rfl).trans (e13)
          have n19 : Gn a 19 = (zp_n u.2.1 a 19) := (zp_nf hfrn hp rfl).trans (e19)
          have q24 : Gn a 24 = (b24 : Int) := (zp_nf hfrn hp rfl).trans e24
          have q25 : Gn a 25 = (b25 : Int) := (zp_nf hfrn hp rfl).trans e25
          have q27 : Gn a 27 = (b27 : Int) := (zp_nf hfrn hp rfl).trans e27
          have q28 : Gn a 28 = (b28 : Int) := (zp_nf hfrn hp rfl).trans e28
          refine zp_const (pc := 74) hx hb (zd_X12_behindTest (74, .iconst 0, 1, 0, []) (List.mem_of_getElem? (i := 36) rfl)) rfl rfl ?_
          refine zp_iret (pc := 75) (n := 0) hx hb hE hQ hU5 rfl (by decide) (zd_X12_behindTest (75, .ireturn, 1, 0, []) (List.mem_of_getElem? (i := 37) rfl)) (j := 0) rfl (zp_o0 (by omega) (by omega) (by omega) (by omega)) ?_
          rw [hps]
          refine ⟨rfl, by show 0 = 0 ∨ 0 = 2 ∨ 0 = 4; decide, fun z => absurd z (by decide), fun first hz => ⟨fun _ => ?_, fun z => absurd z (by decide)⟩⟩
          have hz : zs first 1 0 a (zp_n u.2.1) := hz
          obtain ⟨-, nc2, pd2, e1, e2, e3⟩ := hz
          obtain rfl : nc = nc2 := by omega
          obtain rfl : pd = pd2 := by omega
          obtain ⟨y3, y4⟩ := zs_sp_settle e3 c10 c5
          have l1 : ∀ i, i < pds → zv Gp a 27 i = zv (zp_n u.2.1) a 27 i := fun i hi => by rw [hp2, c4, Int.toNat_natCast, if_neg (by omega), c8]
          have l2 : ∀ i, i < pds → zv Gp a 28 i = zv (zp_n u.2.1) a 28 i := fun i hi => by rw [hp3, c4, Int.toNat_natCast, if_neg (by omega), c9]
          have l3 : zv Gp a 27 pds = 30 := by rw [hp2, c4, Int.toNat_natCast, if_pos rfl]
          have l4 : zv Gp a 28 pds = (ncs : Int) := by rw [hp3, c4, Int.toNat_natCast, if_pos rfl]
          have pv24 : ∀ j, zv Gp a 24 j = zv Gs a 24 j := fun j => by rw [zv_eq p24, zv_eq s24, zp_nc hfrp hq24 rfl]
          have pv25 : ∀ j, zv Gp a 25 j = zv Gs a 25 j := fun j => by rw [zv_eq p25, zv_eq s25, zp_nc hfrp hq25 rfl]
          have o1 : ∀ q, q < ncs → zv Ge a 24 q = zv Gs a 24 q := fun q hq => by rw [he2, p23, Int.toNat_natCast, if_neg (by omega), pv24]
          have o2 : ∀ q, q < ncs → zv Ge a 25 q = zv Gs a 25 q := fun q hq => by rw [he3, p23, Int.toNat_natCast, if_neg (by omega), pv25]
          have o3 : zv Ge a 24 ncs = 29 := by rw [he2, p23, Int.toNat_natCast, if_pos rfl]
          have hlt : zp_n u.2.1 a 14 + 1 ≤ Gn a 14 := by omega
          have y5 := zs_sp_ao (op' := zv Ge a 24) (ar' := zv Ge a 25) (pl' := zv Gp a 27) (pa' := zv Gp a 28) y3 hlt l1 l2 (by omega) l4 o1 o2 (by omega)
          have hff := y3.1.1
          have y13 : Gn a 13 = zp_n u.2.1 a 13 := (zp_nf hfrn hp rfl).trans e13
          have y19 : Gn a 19 = zp_n u.2.1 a 19 := (zp_nf hfrn hp rfl).trans e19
          have q23 : Gn a 23 = ((ncs + 1 : Nat) : Int) := by rw [show Gn a 23 = Ge a 23 from zp_nf hfrn hp rfl, he1, p23]; rfl
          have q29 : Gn a 29 = ((pds + 1 : Nat) : Int) := by rw [show Gn a 29 = Gp a 29 from (zp_nf hfrn hp rfl).trans (zp_nf hfre hp rfl), hp1, c4]; rfl
          have qv24 : ∀ j, zv Gn a 24 j = zv Ge a 24 j := fun j => by rw [zv_eq q24, zv_eq e24, zp_nc hfrn hq24 rfl]
          have qv25 : ∀ j, zv Gn a 25 j = zv Ge a 25 j := fun j => by rw [zv_eq q25, zv_eq e25, zp_nc hfrn hq25 rfl]
          have qv27 : ∀ j, zv Gn a 27 j = zv Gp a 27 j := fun j => by rw [zv_eq q27, zv_eq p27, zp_nc hfrn hq27 rfl, zp_nc hfre hq27 rfl]
          have qv28 : ∀ j, zv Gn a 28 j = zv Gp a 28 j := fun j => by rw [zv_eq q28, zv_eq p28, zp_nc hfrn hq28 rfl, zp_nc hfre hq28 rfl]
          show zs_go a first 0 0 (zp_n u.2.1) Gn
          refine ⟨zs_mk y5 (by unfold zs_tk; omega) q23 q29 y19 rfl qv24 qv25 qv27 qv28, fun q hq => ⟨by rw [qv24, o1 q (by omega)]; exact (y4 q hq).1, by rw [qv25, o2 q (by omega)]; exact (y4 q hq).2⟩, by omega, fun z => ⟨by omega, by omega⟩⟩
      · refine zp_const (pc := 40) hx hb (zd_X12_behindTest (40, .bipush 29, 2, 0, []) (List.mem_of_getElem? (i := 20) rfl)) rfl rfl ?_
        refine zp_goto (tgt := 47) (pc := 42) hx hb (zd_X12_behindTest (42, .goto 5, 3, 0, []) (List.mem_of_getElem? (i := 21) rfl)) rfl ?_
        refine zp_load (pc := 47) hx hb (zd_X12_behindTest (47, .aload_n 0, 1, 0, []) (List.mem_of_getElem? (i := 23) rfl)) rfl (j := 1) rfl ?_
        refine zp_getf (n := (ncs : Int)) (pc := 48) hx hb hE hw (zd_X12_behindTest (48, .getfield 279, 3, 0, []) (List.mem_of_getElem? (i := 24) rfl)) (j := 41) rfl rfl rfl hp c3 ?_
        refine zp_call (pc := 51) (how := 0) (idx := 307) (mi := 220) (S := []) hx hb hE hw heff hrm (zX_pu hW) rfl (j := 22) rfl rfl (by decide +kernel) (zd_X12_behindTest (51, .invokevirtual 307, 3, 0, []) (List.mem_of_getElem? (i := 25) rfl)) [(a : Int), 29, (ncs : Int)] rfl ⟨zp_o2 hp, zp_o0 (by decide) (by decide) (by decide) (by decide), zp_o0 (by omega) (by omega) (by omega) (by omega), trivial⟩ (Nat.le_of_ble_eq_true rfl) (show Gs a 29 < 400 by omega) (fun al hal rnp Pp Gp hextp hfrp hokp hcsp hpsip => ?_)
        obtain rfl := List.mem_singleton.mp hal
        obtain ⟨rfl, hp1, hp2, hp3⟩ := hpsip
        have hp1 : Gp a 29 = Gs a 29 + 1 := hp1
        have hp2 : ∀ j : Nat, zv Gp a 27 j = if j = (Gs a 29).toNat then 29 else zv Gs a 27 j := hp2
        have hp3 : ∀ j : Nat, zv Gp a 28 j = if j = (Gs a 29).toNat then (ncs : Int) else zv Gs a 28 j := hp3
        have p24 : Gp a 24 = (b24 : Int) := (zp_nf hfrp hp rfl).trans s24
        have p25 : Gp a 25 = (b25 : Int) := (zp_nf hfrp hp rfl).trans s25
        have p27 : Gp a 27 = (b27 : Int) := (zp_nf hfrp hp rfl).trans s27
        have p28 : Gp a 28 = (b28 : Int) := (zp_nf hfrp hp rfl).trans s28
        have p13 : Gp a 13 = zp_n u.2.1 a 13 := (zp_nf hfrp hp rfl).trans s13
        have p14 : Gp a 14 = zp_n u.2.1 a 14 := (zp_nf hfrp hp rfl).trans s14
        have p15 : Gp a 15 = zp_n u.2.1 a 15 := (zp_nf hfrp hp rfl).trans s15
        have p16 : Gp a 16 = zp_n u.2.1 a 16 := (zp_nf hfrp hp rfl).trans s16
        have p19 : Gp a 19 = zp_n u.2.1 a 19 := (zp_nf hfrp hp rfl).trans s19
        have p23 : Gp a 23 = (ncs : Int) := (zp_nf hfrp hp rfl).trans c3
        refine zp_load (pc := 54) hx hb (zd_X12_behindTest (54, .aload_n 0, 1, 0, []) (List.mem_of_getElem? (i := 26) rfl)) rfl (j := 1) rfl ?_
        refine zp_load (pc := 55) hx hb (zd_X12_behindTest (55, .iload_n 1, 1, 0, []) (List.mem_of_getElem? (i := 27) rfl)) rfl (j := 0) rfl ?_
        refine zp_if (pc := 56) (tgt := 64) hx hb (zd_X12_behindTest (56, .ifCond .eq 8, 3, 0, []) (List.mem_of_getElem? (i := 28) rfl)) rfl (fun (hc132 : an = 0) => ?_) (fun (hc132 : ¬ (an = 0)) => ?_)
        · refine zp_const (pc := 64) hx hb (zd_X12_behindTest (64, .bipush 30, 2, 0, []) (List.mem_of_getElem? (i := 31) rfl)) rfl rfl ?_
          refine zp_const (pc := 66) hx hb (zd_X12_behindTest (66, .iconst 0, 1, 0, []) (List.mem_of_getElem? (i := 32) rfl)) rfl rfl ?_
          refine zp_call (pc := 67) (how := 0) (idx := 288) (mi := 227) (S := []) hx hb hE hw heff hrm (zX_em hW) rfl (j := 29) rfl rfl (by decide +kernel) (zd_X12_behindTest (67, .invokevirtual 288, 3, 0, []) (List.mem_of_getElem? (i := 33) rfl)) [(a : Int), 30, 0] rfl ⟨zp_o2 hp, zp_o0 (by decide) (by decide) (by decide) (by decide), zp_o0 (by decide) (by decide) (by decide) (by decide), trivial⟩ (Nat.le_of_ble_eq_true rfl) (show Gp a 23 < 400 by omega) (fun al hal rne Pe Ge hexte hfre hoke hcse hpsie => ?_)
          obtain rfl := List.mem_singleton.mp hal
          obtain ⟨rfl, he1, he2, he3⟩ := hpsie
          have he1 : Ge a 23 = Gp a 23 + 1 := he1
          have he2 : ∀ j : Nat, zv Ge a 24 j = if j = (Gp a 23).toNat then 30 else zv Gp a 24 j := he2
          have he3 : ∀ j : Nat, zv Ge a 25 j = if j = (Gp a 23).toNat then 0 else zv Gp a 25 j := he3
          have e24 : Ge a 24 = (b24 : Int) := (zp_nf hfre hp rfl).trans p24
          have e25 : Ge a 25 = (b25 : Int) := (zp_nf hfre hp rfl).trans p25
          have e27 : Ge a 27 = (b27 : Int) := (zp_nf hfre hp rfl).trans p27
          have e28 : Ge a 28 = (b28 : Int) := (zp_nf hfre hp rfl).trans p28
          have e13 : Ge a 13 = zp_n u.2.1 a 13 := (zp_nf hfre hp rfl).trans p13
          have e14 : Ge a 14 = zp_n u.2.1 a 14 := (zp_nf hfre hp rfl).trans p14
          have e15 : Ge a 15 = zp_n u.2.1 a 15 := (zp_nf hfre hp rfl).trans p15
          have e16 : Ge a 16 = zp_n u.2.1 a 16 := (zp_nf hfre hp rfl).trans p16
          have e19 : Ge a 19 = zp_n u.2.1 a 19 := (zp_nf hfre hp rfl).trans p19
          refine zp_load (pc := 70) hx hb (zd_X12_behindTest (70, .aload_n 0, 1, 0, []) (List.mem_of_getElem? (i := 34) rfl)) rfl (j := 1) rfl ?_
          have hq15 : Ge a 15 = (zp_n u.2.1 a 15) := e15
          have hq13 : Ge a 13 = (zp_n u.2.1 a 13) := e13
          refine zp_call (pc := 71) (how := 0) (idx := 244) (mi := 212) (S := []) hx hb hE hw heff hrm (zX_nx hW) rfl (j := 14) rfl rfl (by decide +kernel) (zd_X12_behindTest (71, .invokevirtual 244, 3, 0, []) (List.mem_of_getElem? (i := 35) rfl)) [(a : Int)] rfl ⟨zp_o2 hp, trivial⟩ (Nat.le_of_ble_eq_true rfl) (show 0 ≤ Ge a 15 ∧ Ge a 15 ≤ Ge a 13 by omega) (fun al hal rnn Pn Gn hextn hfrn hokn hcsn hpsin => ?_)
          obtain rfl := List.mem_singleton.mp hal
          obtain ⟨rfl, hxn⟩ := hpsin
          have hxn : Ge a 15 ≤ Gn a 14 ∧ Gn a 14 ≤ Gn a 15 ∧ Gn a 15 ≤ Ge a 13 ∧ 0 ≤ Gn a 16 ∧ Gn a 16 ≤ 3 ∧ (Gn a 16 ≠ 0 → Gn a 14 < Gn a 15) := hxn
          have n13 : Gn a 13 = (zp_n u.2.1 a 13) := (zp_nf hfrn hp rfl).trans (e13)
          have n19 : Gn a 19 = (zp_n u.2.1 a 19) := (zp_nf hfrn hp rfl).trans (e19)
          have q24 : Gn a 24 = (b24 : Int) := (zp_nf hfrn hp rfl).trans e24
          have q25 : Gn a 25 = (b25 : Int) := (zp_nf hfrn hp rfl).trans e25
          have q27 : Gn a 27 = (b27 : Int) := (zp_nf hfrn hp rfl).trans e27
          have q28 : Gn a 28 = (b28 : Int) := (zp_nf hfrn hp rfl).trans e28
          refine zp_const (pc := 74) hx hb (zd_X12_behindTest (74, .iconst 0, 1, 0, []) (List.mem_of_getElem? (i := 36) rfl)) rfl rfl ?_
          refine zp_iret (pc := 75) (n := 0) hx hb hE hQ hU5 rfl (by decide) (zd_X12_behindTest (75, .ireturn, 1, 0, []) (List.mem_of_getElem? (i := 37) rfl)) (j := 0) rfl (zp_o0 (by omega) (by omega) (by omega) (by omega)) ?_
          rw [hps]
          refine ⟨rfl, by show 0 = 0 ∨ 0 = 2 ∨ 0 = 4; decide, fun z => absurd z (by decide), fun first hz => ⟨fun _ => ?_, fun z => absurd z (by decide)⟩⟩
          have hz : zs first 1 0 a (zp_n u.2.1) := hz
          obtain ⟨-, nc2, pd2, e1, e2, e3⟩ := hz
          obtain rfl : nc = nc2 := by omega
          obtain rfl : pd = pd2 := by omega
          obtain ⟨y3, y4⟩ := zs_sp_settle e3 c10 c5
          have l1 : ∀ i, i < pds → zv Gp a 27 i = zv (zp_n u.2.1) a 27 i := fun i hi => by rw [hp2, c4, Int.toNat_natCast, if_neg (by omega), c8]
          have l2 : ∀ i, i < pds → zv Gp a 28 i = zv (zp_n u.2.1) a 28 i := fun i hi => by rw [hp3, c4, Int.toNat_natCast, if_neg (by omega), c9]
          have l3 : zv Gp a 27 pds = 29 := by rw [hp2, c4, Int.toNat_natCast, if_pos rfl]
          have l4 : zv Gp a 28 pds = (ncs : Int) := by rw [hp3, c4, Int.toNat_natCast, if_pos rfl]
          have pv24 : ∀ j, zv Gp a 24 j = zv Gs a 24 j := fun j => by rw [zv_eq p24, zv_eq s24, zp_nc hfrp hq24 rfl]
          have pv25 : ∀ j, zv Gp a 25 j = zv Gs a 25 j := fun j => by rw [zv_eq p25, zv_eq s25, zp_nc hfrp hq25 rfl]
          have o1 : ∀ q, q < ncs → zv Ge a 24 q = zv Gs a 24 q := fun q hq => by rw [he2, p23, Int.toNat_natCast, if_neg (by omega), pv24]
          have o2 : ∀ q, q < ncs → zv Ge a 25 q = zv Gs a 25 q := fun q hq => by rw [he3, p23, Int.toNat_natCast, if_neg (by omega), pv25]
          have o3 : zv Ge a 24 ncs = 30 := by rw [he2, p23, Int.toNat_natCast, if_pos rfl]
          have hlt : zp_n u.2.1 a 14 + 1 ≤ Gn a 14 := by omega
          have y5 := zs_sp_ao (op' := zv Ge a 24) (ar' := zv Ge a 25) (pl' := zv Gp a 27) (pa' := zv Gp a 28) y3 hlt l1 l2 (by omega) l4 o1 o2 (by omega)
          have hff := y3.1.1
          have y13 : Gn a 13 = zp_n u.2.1 a 13 := (zp_nf hfrn hp rfl).trans e13
          have y19 : Gn a 19 = zp_n u.2.1 a 19 := (zp_nf hfrn hp rfl).trans e19
          have q23 : Gn a 23 = ((ncs + 1 : Nat) : Int) := by rw [show Gn a 23 = Ge a 23 from zp_nf hfrn hp rfl, he1, p23]; rfl
          have q29 : Gn a 29 = ((pds + 1 : Nat) : Int) := by rw [show Gn a 29 = Gp a 29 from (zp_nf hfrn hp rfl).trans (zp_nf hfre hp rfl), hp1, c4]; rfl
          have qv24 : ∀ j, zv Gn a 24 j = zv Ge a 24 j := fun j => by rw [zv_eq q24, zv_eq e24, zp_nc hfrn hq24 rfl]
          have qv25 : ∀ j, zv Gn a 25 j = zv Ge a 25 j := fun j => by rw [zv_eq q25, zv_eq e25, zp_nc hfrn hq25 rfl]
          have qv27 : ∀ j, zv Gn a 27 j = zv Gp a 27 j := fun j => by rw [zv_eq q27, zv_eq p27, zp_nc hfrn hq27 rfl, zp_nc hfre hq27 rfl]
          have qv28 : ∀ j, zv Gn a 28 j = zv Gp a 28 j := fun j => by rw [zv_eq q28, zv_eq p28, zp_nc hfrn hq28 rfl, zp_nc hfre hq28 rfl]
          show zs_go a first 0 0 (zp_n u.2.1) Gn
          refine ⟨zs_mk y5 (by unfold zs_tk; omega) q23 q29 y19 rfl qv24 qv25 qv27 qv28, fun q hq => ⟨by rw [qv24, o1 q (by omega)]; exact (y4 q hq).1, by rw [qv25, o2 q (by omega)]; exact (y4 q hq).2⟩, by omega, fun z => ⟨by omega, by omega⟩⟩
        · refine zp_const (pc := 59) hx hb (zd_X12_behindTest (59, .bipush 29, 2, 0, []) (List.mem_of_getElem? (i := 29) rfl)) rfl rfl ?_
          refine zp_goto (tgt := 66) (pc := 61) hx hb (zd_X12_behindTest (61, .goto 5, 3, 0, []) (List.mem_of_getElem? (i := 30) rfl)) rfl ?_
          refine zp_const (pc := 66) hx hb (zd_X12_behindTest (66, .iconst 0, 1, 0, []) (List.mem_of_getElem? (i := 32) rfl)) rfl rfl ?_
          refine zp_call (pc := 67) (how := 0) (idx := 288) (mi := 227) (S := []) hx hb hE hw heff hrm (zX_em hW) rfl (j := 29) rfl rfl (by decide +kernel) (zd_X12_behindTest (67, .invokevirtual 288, 3, 0, []) (List.mem_of_getElem? (i := 33) rfl)) [(a : Int), 29, 0] rfl ⟨zp_o2 hp, zp_o0 (by decide) (by decide) (by decide) (by decide), zp_o0 (by decide) (by decide) (by decide) (by decide), trivial⟩ (Nat.le_of_ble_eq_true rfl) (show Gp a 23 < 400 by omega) (fun al hal rne Pe Ge hexte hfre hoke hcse hpsie => ?_)
          obtain rfl := List.mem_singleton.mp hal
          obtain ⟨rfl, he1, he2, he3⟩ := hpsie
          have he1 : Ge a 23 = Gp a 23 + 1 := he1
          have he2 : ∀ j : Nat, zv Ge a 24 j = if j = (Gp a 23).toNat then 29 else zv Gp a 24 j := he2
          have he3 : ∀ j : Nat, zv Ge a 25 j = if j = (Gp a 23).toNat then 0 else zv Gp a 25 j := he3
          have e24 : Ge a 24 = (b24 : Int) := (zp_nf hfre hp rfl).trans p24
          have e25 : Ge a 25 = (b25 : Int) := (zp_nf hfre hp rfl).trans p25
          have e27 : Ge a 27 = (b27 : Int) := (zp_nf hfre hp rfl).trans p27
          have e28 : Ge a 28 = (b28 : Int) := (zp_nf hfre hp rfl).trans p28
          have e13 : Ge a 13 = zp_n u.2.1 a 13 := (zp_nf hfre hp rfl).trans p13
          have e14 : Ge a 14 = zp_n u.2.1 a 14 := (zp_nf hfre hp rfl).trans p14
          have e15 : Ge a 15 = zp_n u.2.1 a 15 := (zp_nf hfre hp rfl).trans p15
          have e16 : Ge a 16 = zp_n u.2.1 a 16 := (zp_nf hfre hp rfl).trans p16
          have e19 : Ge a 19 = zp_n u.2.1 a 19 := (zp_nf hfre hp rfl).trans p19
          refine zp_load (pc := 70) hx hb (zd_X12_behindTest (70, .aload_n 0, 1, 0, []) (List.mem_of_getElem? (i := 34) rfl)) rfl (j := 1) rfl ?_
          have hq15 : Ge a 15 = (zp_n u.2.1 a 15) := e15
          have hq13 : Ge a 13 = (zp_n u.2.1 a 13) := e13
          refine zp_call (pc := 71) (how := 0) (idx := 244) (mi := 212) (S := []) hx hb hE hw heff hrm (zX_nx hW) rfl (j := 14) rfl rfl (by decide +kernel) (zd_X12_behindTest (71, .invokevirtual 244, 3, 0, []) (List.mem_of_getElem? (i := 35) rfl)) [(a : Int)] rfl ⟨zp_o2 hp, trivial⟩ (Nat.le_of_ble_eq_true rfl) (show 0 ≤ Ge a 15 ∧ Ge a 15 ≤ Ge a 13 by omega) (fun al hal rnn Pn Gn hextn hfrn hokn hcsn hpsin => ?_)
          obtain rfl := List.mem_singleton.mp hal
          obtain ⟨rfl, hxn⟩ := hpsin
          have hxn : Ge a 15 ≤ Gn a 14 ∧ Gn a 14 ≤ Gn a 15 ∧ Gn a 15 ≤ Ge a 13 ∧ 0 ≤ Gn a 16 ∧ Gn a 16 ≤ 3 ∧ (Gn a 16 ≠ 0 → Gn a 14 < Gn a 15) := hxn
          have n13 : Gn a 13 = (zp_n u.2.1 a 13) := (zp_nf hfrn hp rfl).trans (e13)
          have n19 : Gn a 19 = (zp_n u.2.1 a 19) := (zp_nf hfrn hp rfl).trans (e19)
          have q24 : Gn a 24 = (b24 : Int) := (zp_nf hfrn hp rfl).trans e24
          have q25 : Gn a 25 = (b25 : Int) := (zp_nf hfrn hp rfl).trans e25
          have q27 : Gn a 27 = (b27 : Int) := (zp_nf hfrn hp rfl).trans e27
          have q28 : Gn a 28 = (b28 : Int) := (zp_nf hfrn hp rfl).trans e28
          refine zp_const (pc := 74) hx hb (zd_X12_behindTest (74, .iconst 0, 1, 0, []) (List.mem_of_getElem? (i := 36) rfl)) rfl rfl ?_
          refine zp_iret (pc := 75) (n := 0) hx hb hE hQ hU5 rfl (by decide) (zd_X12_behindTest (75, .ireturn, 1, 0, []) (List.mem_of_getElem? (i := 37) rfl)) (j := 0) rfl (zp_o0 (by omega) (by omega) (by omega) (by omega)) ?_
          rw [hps]
          refine ⟨rfl, by show 0 = 0 ∨ 0 = 2 ∨ 0 = 4; decide, fun z => absurd z (by decide), fun first hz => ⟨fun _ => ?_, fun z => absurd z (by decide)⟩⟩
          have hz : zs first 1 0 a (zp_n u.2.1) := hz
          obtain ⟨-, nc2, pd2, e1, e2, e3⟩ := hz
          obtain rfl : nc = nc2 := by omega
          obtain rfl : pd = pd2 := by omega
          obtain ⟨y3, y4⟩ := zs_sp_settle e3 c10 c5
          have l1 : ∀ i, i < pds → zv Gp a 27 i = zv (zp_n u.2.1) a 27 i := fun i hi => by rw [hp2, c4, Int.toNat_natCast, if_neg (by omega), c8]
          have l2 : ∀ i, i < pds → zv Gp a 28 i = zv (zp_n u.2.1) a 28 i := fun i hi => by rw [hp3, c4, Int.toNat_natCast, if_neg (by omega), c9]
          have l3 : zv Gp a 27 pds = 29 := by rw [hp2, c4, Int.toNat_natCast, if_pos rfl]
          have l4 : zv Gp a 28 pds = (ncs : Int) := by rw [hp3, c4, Int.toNat_natCast, if_pos rfl]
          have pv24 : ∀ j, zv Gp a 24 j = zv Gs a 24 j := fun j => by rw [zv_eq p24, zv_eq s24, zp_nc hfrp hq24 rfl]
          have pv25 : ∀ j, zv Gp a 25 j = zv Gs a 25 j := fun j => by rw [zv_eq p25, zv_eq s25, zp_nc hfrp hq25 rfl]
          have o1 : ∀ q, q < ncs → zv Ge a 24 q = zv Gs a 24 q := fun q hq => by rw [he2, p23, Int.toNat_natCast, if_neg (by omega), pv24]
          have o2 : ∀ q, q < ncs → zv Ge a 25 q = zv Gs a 25 q := fun q hq => by rw [he3, p23, Int.toNat_natCast, if_neg (by omega), pv25]
          have o3 : zv Ge a 24 ncs = 29 := by rw [he2, p23, Int.toNat_natCast, if_pos rfl]
          have hlt : zp_n u.2.1 a 14 + 1 ≤ Gn a 14 := by omega
          have y5 := zs_sp_ao (op' := zv Ge a 24) (ar' := zv Ge a 25) (pl' := zv Gp a 27) (pa' := zv Gp a 28) y3 hlt l1 l2 (by omega) l4 o1 o2 (by omega)
          have hff := y3.1.1
          have y13 : Gn a 13 = zp_n u.2.1 a 13 := (zp_nf hfrn hp rfl).trans e13
          have y19 : Gn a 19 = zp_n u.2.1 a 19 := (zp_nf hfrn hp rfl).trans e19
          have q23 : Gn a 23 = ((ncs + 1 : Nat) : Int) := by rw [show Gn a 23 = Ge a 23 from zp_nf hfrn hp rfl, he1, p23]; rfl
          have q29 : Gn a 29 = ((pds + 1 : Nat) : Int) := by rw [show Gn a 29 = Gp a 29 from (zp_nf hfrn hp rfl).trans (zp_nf hfre hp rfl), hp1, c4]; rfl
          have qv24 : ∀ j, zv Gn a 24 j = zv Ge a 24 j := fun j => by rw [zv_eq q24, zv_eq e24, zp_nc hfrn hq24 rfl]
          have qv25 : ∀ j, zv Gn a 25 j = zv Ge a 25 j := fun j => by rw [zv_eq q25, zv_eq e25, zp_nc hfrn hq25 rfl]
          have qv27 : ∀ j, zv Gn a 27 j = zv Gp a 27 j := fun j => by rw [zv_eq q27, zv_eq p27, zp_nc hfrn hq27 rfl, zp_nc hfre hq27 rfl]
          have qv28 : ∀ j, zv Gn a 28 j = zv Gp a 28 j := fun j => by rw [zv_eq q28, zv_eq p28, zp_nc hfrn hq28 rfl, zp_nc hfre hq28 rfl]
          show zs_go a first 0 0 (zp_n u.2.1) Gn
          refine ⟨zs_mk y5 (by unfold zs_tk; omega) q23 q29 y19 rfl qv24 qv25 qv27 qv28, fun q hq => ⟨by rw [qv24, o1 q (by omega)]; exact (y4 q hq).1, by rw [qv25, o2 q (by omega)]; exact (y4 q hq).2⟩, by omega, fun z => ⟨by omega, by omega⟩⟩
  refine zp_load (pc := 0) hx hb (zd_X12_behindTest (0, .aload_n 0, 1, 0, []) (List.mem_of_getElem? (i := 0) rfl)) rfl (j := 0) rfl ?_
  refine zp_ldc2 (pc := 1) hx hb hE (zd_X12_behindTest (1, .ldc2_w 354, 3, 0, []) (List.mem_of_getElem? (i := 1) rfl)) (j := 102) rfl ?_
  refine zp_call (pc := 4) (how := 0) (idx := 300) (mi := 216) (S := []) hx hb hE hw heff hrm (zX_wo hW) rfl (j := 18) rfl rfl (by decide +kernel) (zd_X12_behindTest (4, .invokevirtual 300, 3, 0, []) (List.mem_of_getElem? (i := 2) rfl)) [(a : Int), 1476] rfl ⟨zp_o2 hp, zp_o1 ⟨by decide, by decide⟩, trivial⟩ (Nat.le_of_ble_eq_true rfl) trivial (fun al hal rnw Pw Gw hextw hfrw hokw hcsw hpsiw => ?_)
  obtain rfl := List.mem_singleton.mp hal
  have hrw := zp_int (hokw _ rfl).1
  obtain ⟨hPew, hGew, htw⟩ := hpsiw
  rw [hPew, hGew]
  have htw : rnw = 1 → zp_n u.2.1 a 16 = 1 := htw
  refine zp_store (L' := [(1, 0, rnw), (0, 2, (a : Int))]) (pc := 7) hx hb hnL (zd_X12_behindTest (7, .istore_n 1, 1, 0, []) (List.mem_of_getElem? (i := 3) rfl)) rfl rfl rfl ?_
  refine zp_load (pc := 8) hx hb (zd_X12_behindTest (8, .iload_n 1, 1, 0, []) (List.mem_of_getElem? (i := 4) rfl)) rfl (j := 0) rfl ?_
  refine zp_if (pc := 9) (tgt := 22) hx hb (zd_X12_behindTest (9, .ifCond .ne 13, 3, 0, []) (List.mem_of_getElem? (i := 5) rfl)) rfl (fun (hc133 : ¬ rnw = 0) => ?_) (fun (hc133 : ¬ (¬ rnw = 0)) => ?_)
  · exact h22 rnw (by omega) (by omega)
  · refine zp_load (pc := 12) hx hb (zd_X12_behindTest (12, .aload_n 0, 1, 0, []) (List.mem_of_getElem? (i := 6) rfl)) rfl (j := 1) rfl ?_
    refine zp_ldc2 (pc := 13) hx hb hE (zd_X12_behindTest (13, .ldc2_w 356, 3, 0, []) (List.mem_of_getElem? (i := 7) rfl)) (j := 103) rfl ?_
    refine zp_call (pc := 16) (how := 0) (idx := 300) (mi := 216) (S := []) hx hb hE hw heff hrm (zX_wo hW) rfl (j := 18) rfl rfl (by decide +kernel) (zd_X12_behindTest (16, .invokevirtual 300, 3, 0, []) (List.mem_of_getElem? (i := 8) rfl)) [(a : Int), 498] rfl ⟨zp_o2 hp, zp_o1 ⟨by decide, by decide⟩, trivial⟩ (Nat.le_of_ble_eq_true rfl) trivial (fun al hal rnv Pv Gv hextv hfrv hokv hcsv hpsiv => ?_)
    obtain rfl := List.mem_singleton.mp hal
    have hrv := zp_int (hokv _ rfl).1
    obtain ⟨hPev, hGev, htv⟩ := hpsiv
    rw [hPev, hGev]
    have htv : rnv = 1 → zp_n u.2.1 a 16 = 1 := htv
    refine zp_if (pc := 19) (tgt := 76) hx hb (zd_X12_behindTest (19, .ifCond .eq 57, 3, 0, []) (List.mem_of_getElem? (i := 9) rfl)) rfl (fun (hc134 : rnv = 0) => ?_) (fun (hc134 : ¬ (rnv = 0)) => ?_)
    · refine zp_load (pc := 76) hx hb (zd_X12_behindTest (76, .aload_n 0, 1, 0, []) (List.mem_of_getElem? (i := 38) rfl)) rfl (j := 1) rfl ?_
      refine zp_call (pc := 77) (how := 0) (idx := 347) (mi := 232) (S := []) hx hb hE hw heff hrm (zX_nn hW) rfl (j := 34) rfl rfl (by decide +kernel) (zd_X12_behindTest (77, .invokevirtual 347, 3, 0, []) (List.mem_of_getElem? (i := 39) rfl)) [(a : Int)] rfl ⟨zp_o2 hp, trivial⟩ (Nat.le_of_ble_eq_true rfl) (show ∀ i : Nat, (i : Int) < zp_n u.2.1 a 29 → zv (zp_n u.2.1) a 27 i ≤ 32 from fun i hi => (hw4 i (by omega)).2.1) (fun al hal rni Pi Gi hexti hfri hoki hcsi hpsii => ?_)
      obtain rfl := List.mem_singleton.mp hal
      have hri := zp_int (hoki _ rfl).1
      obtain ⟨hPei, hGei, hti⟩ := hpsii
      rw [hPei, hGei]
      have hti : (rni = -1 ∧ ∀ i : Nat, (i : Int) < zp_n u.2.1 a 29 → zv (zp_n u.2.1) a 27 i < 31) ∨ ∃ i : Nat, (i : Int) < zp_n u.2.1 a 29 ∧ zv (zp_n u.2.1) a 27 i = rni ∧ 31 ≤ rni ∧ ∀ j : Nat, i < j → (j : Int) < zp_n u.2.1 a 29 → zv (zp_n u.2.1) a 27 j < 31 := hti
      refine zp_const (pc := 80) hx hb (zd_X12_behindTest (80, .iconst (-1), 1, 0, []) (List.mem_of_getElem? (i := 40) rfl)) rfl rfl ?_
      refine zp_icmp (pc := 81) (tgt := 86) hx hb (zd_X12_behindTest (81, .if_icmp .ne 5, 3, 0, []) (List.mem_of_getElem? (i := 41) rfl)) rfl (fun (hc135 : ¬ rni = (-1)) => ?_) (fun (hc135 : ¬ (¬ rni = (-1))) => ?_)
      · refine zp_load (pc := 86) hx hb (zd_X12_behindTest (86, .aload_n 0, 1, 0, []) (List.mem_of_getElem? (i := 44) rfl)) rfl (j := 1) rfl ?_
        refine zp_load (pc := 87) hx hb (zd_X12_behindTest (87, .aload_n 0, 1, 0, []) (List.mem_of_getElem? (i := 45) rfl)) rfl (j := 1) rfl ?_
        refine zp_const (pc := 88) hx hb (zd_X12_behindTest (88, .bipush 41, 2, 0, []) (List.mem_of_getElem? (i := 46) rfl)) rfl rfl ?_
        refine zp_call (pc := 90) (how := 0) (idx := 313) (mi := 221) (S := [(2, (a : Int))]) hx hb hE hw heff hrm (zX_si hW) rfl (j := 23) rfl rfl (by decide +kernel) (zd_X12_behindTest (90, .invokevirtual 313, 3, 0, []) (List.mem_of_getElem? (i := 47) rfl)) [(a : Int), 41] rfl ⟨zp_o2 hp, zp_o0 (by decide) (by decide) (by decide) (by decide), trivial⟩ (Nat.le_of_ble_eq_true rfl) trivial (fun al hal rnx Px Gx hextx hfrx hokx hcsx hpsix => ?_)
        obtain rfl := List.mem_singleton.mp hal
        have hrx := zp_int (hokx _ rfl).1
        obtain ⟨hPex, hGex, htx⟩ := hpsix
        rw [hPex, hGex]
        have htx : rnx = 1 → zp_n u.2.1 a 16 = 3 := htx
        refine zp_call (pc := 93) (how := 0) (idx := 275) (mi := 217) (S := []) hx hb hE hw heff hrm (zX_mu hW) rfl (j := 19) rfl rfl (by decide +kernel) (zd_X12_behindTest (93, .invokevirtual 275, 3, 0, []) (List.mem_of_getElem? (i := 48) rfl)) [(a : Int), rnx] rfl ⟨zp_o2 hp, zp_o0 (by omega) (by omega) (by omega) (by omega), trivial⟩ (Nat.le_of_ble_eq_true rfl) htk (fun al hal rnm Pm Gm hextm hfrm hokm hcsm hpsim => ?_)
        obtain rfl := List.mem_singleton.mp hal
        obtain ⟨rfl, htm, hmm⟩ := hpsim
        have htm : zs_tk a Gm := htm
        have hmm : zs_mu a rnx (zp_n u.2.1) Gm := hmm
        have htm2 := htm
        obtain ⟨m1, m2, m3, m4, m5, m6⟩ := htm2
        have m24 : Gm a 24 = (b24 : Int) := (zp_nf hfrm hp rfl).trans hb24
        have m25 : Gm a 25 = (b25 : Int) := (zp_nf hfrm hp rfl).trans hb25
        have m27 : Gm a 27 = (b27 : Int) := (zp_nf hfrm hp rfl).trans hb27
        have m28 : Gm a 28 = (b28 : Int) := (zp_nf hfrm hp rfl).trans hb28
        have m13 : Gm a 13 = zp_n u.2.1 a 13 := zp_nf hfrm hp rfl
        have m23 : Gm a 23 = zp_n u.2.1 a 23 := zp_nf hfrm hp rfl
        have m29 : Gm a 29 = zp_n u.2.1 a 29 := zp_nf hfrm hp rfl
        have mv24 : zv Gm a 24 = zv (zp_n u.2.1) a 24 := funext fun j => by rw [zv_eq m24, zv_eq hb24, zp_nc hfrm hq24 rfl]
        have mv25 : zv Gm a 25 = zv (zp_n u.2.1) a 25 := funext fun j => by rw [zv_eq m25, zv_eq hb25, zp_nc hfrm hq25 rfl]
        have mv27 : zv Gm a 27 = zv (zp_n u.2.1) a 27 := funext fun j => by rw [zv_eq m27, zv_eq hb27, zp_nc hfrm hq27 rfl]
        have mv28 : zv Gm a 28 = zv (zp_n u.2.1) a 28 := funext fun j => by rw [zv_eq m28, zv_eq hb28, zp_nc hfrm hq28 rfl]
        refine zp_load (pc := 96) hx hb (zd_X12_behindTest (96, .aload_n 0, 1, 0, []) (List.mem_of_getElem? (i := 49) rfl)) rfl (j := 1) rfl ?_
        refine zp_getf (n := (Gm a 19)) (pc := 97) hx hb hE hw (zd_X12_behindTest (97, .getfield 240, 3, 0, []) (List.mem_of_getElem? (i := 50) rfl)) (j := 37) rfl rfl rfl hp rfl ?_
        refine zp_if (pc := 100) (tgt := 128) hx hb (zd_X12_behindTest (100, .ifCond .ne 28, 3, 0, []) (List.mem_of_getElem? (i := 51) rfl)) rfl (fun (hc136 : ¬ (Gm a 19) = 0) => ?_) (fun (hc136 : ¬ (¬ (Gm a 19) = 0)) => ?_)
        · refine zp_const (pc := 128) hx hb (zd_X12_behindTest (128, .iconst 2, 1, 0, []) (List.mem_of_getElem? (i := 67) rfl)) rfl rfl ?_
          refine zp_iret (pc := 129) (n := 2) hx hb hE hQ hU5 rfl (by decide) (zd_X12_behindTest (129, .ireturn, 1, 0, []) (List.mem_of_getElem? (i := 68) rfl)) (j := 0) rfl (zp_o0 (by omega) (by omega) (by omega) (by omega)) ?_
          rw [hps]
          refine ⟨rfl, by show 2 = 0 ∨ 2 = 2 ∨ 2 = 4; decide, fun z => absurd z (by decide), fun first hz => ⟨fun z => absurd z (by decide), fun _ => ?_⟩⟩
          have hmb : Gm a 19 = 1 ∧ Gm a 14 = zp_n u.2.1 a 14 := by unfold zs_mu at hmm; omega
          have hz : zs first 1 0 a (zp_n u.2.1) := hz
          obtain ⟨-, nc2, pd2, e1, e2, e3⟩ := hz
          obtain rfl : nc = nc2 := by omega
          obtain rfl : pd = pd2 := by omega
          show zs_go a first 1 0 (zp_n u.2.1) Gm
          refine ⟨zs_mk (bad := Gm a 19) (fr := Gm a 14) (nc := nc) (pd := pd) ⟨?_, fun z => by omega⟩ htm (m23.trans e1) (m29.trans e2) rfl rfl (fun q => by rw [mv24]) (fun q => by rw [mv25]) (fun q => by rw [mv27]) (fun q => by rw [mv28]), fun q _ => ⟨by rw [mv24], by rw [mv25]⟩, by omega, fun z => by omega⟩
          rw [hmb.2]
          exact e3.1
        · refine zp_load (pc := 103) hx hb (zd_X12_behindTest (103, .aload_n 0, 1, 0, []) (List.mem_of_getElem? (i := 52) rfl)) rfl (j := 1) rfl ?_
          refine zp_const (pc := 104) hx hb (zd_X12_behindTest (104, .iconst 1, 1, 0, []) (List.mem_of_getElem? (i := 53) rfl)) rfl rfl ?_
          have hmb : Gm a 19 = 0 ∧ zp_n u.2.1 a 19 = 0 ∧ rnx = 1 ∧ zp_n u.2.1 a 15 ≤ Gm a 14 := by unfold zs_mu at hmm; omega
          have hlt : zp_n u.2.1 a 14 + 1 ≤ Gm a 14 := by have := t6 (by omega); omega
          have hwkm : zi_wk f0 nc pd (Gm a 14) (zv Gm a 27) (zv Gm a 28) := by rw [mv27, mv28]; exact zi_wk_le hsp (by omega)
          refine zp_call (pc := 105) (how := 0) (idx := 344) (mi := 231) (S := []) hx hb hE hw heff hrm (zX_se hW) rfl (j := 33) rfl rfl (by decide +kernel) (zd_X12_behindTest (105, .invokevirtual 344, 3, 0, []) (List.mem_of_getElem? (i := 54) rfl)) [(a : Int), 1] rfl ⟨zp_o2 hp, zp_o0 (by omega) (by omega) (by omega) (by omega), trivial⟩ (Nat.le_of_ble_eq_true rfl) ⟨f0, nc, pd, Gm a 14, m23.trans hnc, m29.trans hpd, hwkm, by omega, (show (1 : Int) ≤ 1 by decide)⟩ (fun al hal rns Ps Gs hexts hfrs hoks hcss hpsis => ?_)
          obtain rfl := List.mem_singleton.mp hal
          obtain ⟨rfl, hsets, htops⟩ := hpsis
          have hsets : zs_set 1 a Gm Gs := hsets
          have htops : ∀ pd' : Nat, Gs a 29 = pd' → pd' = 0 ∨ zbinds (zv Gm a 27 (pd' - 1)) < 1 := htops
          obtain ⟨nc1, pd1, ncs, pds, c1, c2, c3, c4, c5, c6, c7, c8, c9, c10⟩ := hsets
          obtain rfl : nc = nc1 := by omega
          obtain rfl : pd = pd1 := by omega
          have s24 : Gs a 24 = (b24 : Int) := (zp_nf hfrs hp rfl).trans m24
          have s25 : Gs a 25 = (b25 : Int) := (zp_nf hfrs hp rfl).trans m25
          have s27 : Gs a 27 = (b27 : Int) := (zp_nf hfrs hp rfl).trans m27
          have s28 : Gs a 28 = (b28 : Int) := (zp_nf hfrs hp rfl).trans m28
          have s13 : Gs a 13 = Gm a 13 := zp_nf hfrs hp rfl
          have s14 : Gs a 14 = Gm a 14 := zp_nf hfrs hp rfl
          have s15 : Gs a 15 = Gm a 15 := zp_nf hfrs hp rfl
          have s16 : Gs a 16 = Gm a 16 := zp_nf hfrs hp rfl
          have s19 : Gs a 19 = Gm a 19 := zp_nf hfrs hp rfl
          have hT : ∃ i : Nat, i < pd ∧ 31 ≤ zv Gm a 27 i := by
            rw [mv27]
            rcases hti with ⟨h1, -⟩ | ⟨i, h1, h2, h3, -⟩
            · omega
            · exact ⟨i, by omega, by omega⟩
          obtain ⟨i9, i1, i2⟩ := hT
          have hk9 : i9 < pds := c7 i9 i1 (by rw [zbinds_b i2]; decide)
          obtain ⟨k9, hpk⟩ : ∃ k, pds = k + 1 := ⟨pds - 1, by omega⟩
          have htp : 31 ≤ zv Gm a 27 k9 := by
            rcases htops pds c4 with h | h
            · omega
            · rw [hpk, Nat.add_sub_cancel] at h
              exact zi_topb h
          have c4n : Gs a 29 = (k9 : Int) + 1 := by omega
          refine zp_kn (k := 30) (a := a) (G := Gs) hw (show zp_fd 92 30 = some (12, 0, 0, (-2147483648), 2147483647) from rfl) rfl hp (fun hk30 => ?_)
          have hx30 := zp_int hk30
          refine zp_load (pc := 108) hx hb (zd_X12_behindTest (108, .aload_n 0, 1, 0, []) (List.mem_of_getElem? (i := 55) rfl)) rfl (j := 1) rfl ?_
          refine zp_dup (pc := 109) hx hb (zd_X12_behindTest (109, .dup, 1, 0, []) (List.mem_of_getElem? (i := 56) rfl)) (show (2 : Nat) ≠ 1 by decide) ?_
          refine zp_getf (n := ((k9 : Int) + 1)) (pc := 110) hx hb hE hw (zd_X12_behindTest (110, .getfield 282, 3, 0, []) (List.mem_of_getElem? (i := 57) rfl)) (j := 47) rfl rfl rfl hp c4n ?_
          refine zp_const (pc := 113) hx hb (zd_X12_behindTest (113, .iconst 1, 1, 0, []) (List.mem_of_getElem? (i := 58) rfl)) rfl rfl ?_
          refine zp_sub (n := (k9 : Int)) (pc := 114) hx hb (zd_X12_behindTest (114, .isub, 1, 0, []) (List.mem_of_getElem? (i := 59) rfl)) (by omega) (zp_r0 (by omega) (by omega)) ?_
          refine zp_putf (pc := 115) hx hb hE hw heff (zd_X12_behindTest (115, .putfield 282, 3, 0, []) (List.mem_of_getElem? (i := 60) rfl)) (j := 47) rfl rfl rfl hp (zp_o0 (by omega) (by omega) (by omega) (by omega)) ?_
          refine zp_load (pc := 118) hx hb (zd_X12_behindTest (118, .aload_n 0, 1, 0, []) (List.mem_of_getElem? (i := 61) rfl)) rfl (j := 1) rfl ?_
          refine zp_dup (pc := 119) hx hb (zd_X12_behindTest (119, .dup, 1, 0, []) (List.mem_of_getElem? (i := 62) rfl)) (show (2 : Nat) ≠ 1 by decide) ?_
          refine zp_getf (n := (Gs a 30)) (pc := 120) hx hb hE hw (zd_X12_behindTest (120, .getfield 304, 3, 0, []) (List.mem_of_getElem? (i := 63) rfl)) (j := 48) rfl rfl rfl hp ((zp_set_ne (Or.inr (by decide)))) ?_
          refine zp_const (pc := 123) hx hb (zd_X12_behindTest (123, .iconst 1, 1, 0, []) (List.mem_of_getElem? (i := 64) rfl)) rfl rfl ?_
          refine zp_bin (o := 1) (la := -2147483648) (ha := 2147483647) (lb := -2147483648) (hb' := 2147483647) (pc := 124) hx hb (zd_X12_behindTest (124, .isub, 1, 0, []) (List.mem_of_getElem? (i := 65) rfl)) rfl (fun h => absurd h (by decide)) (by omega) (by omega) (by omega) (by omega) (fun x137 r_x137 _ _ => ?_)
          have i_x137 := zp_rg0 r_x137
          refine zp_putf (pc := 125) hx hb hE hw heff (zd_X12_behindTest (125, .putfield 304, 3, 0, []) (List.mem_of_getElem? (i := 66) rfl)) (j := 48) rfl rfl rfl hp (zp_o0 (by omega) (by omega) (by omega) (by omega)) ?_
          refine zp_const (pc := 128) hx hb (zd_X12_behindTest (128, .iconst 2, 1, 0, []) (List.mem_of_getElem? (i := 67) rfl)) rfl rfl ?_
          refine zp_iret (pc := 129) (n := 2) hx hb hE hQ hU5 rfl (by decide) (zd_X12_behindTest (129, .ireturn, 1, 0, []) (List.mem_of_getElem? (i := 68) rfl)) (j := 0) rfl (zp_o0 (by omega) (by omega) (by omega) (by omega)) ?_
          rw [hps]
          refine ⟨rfl, by show 2 = 0 ∨ 2 = 2 ∨ 2 = 4; decide, fun z => absurd z (by decide), fun first hz => ⟨fun z => absurd z (by decide), fun _ => ?_⟩⟩
          have hz : zs first 1 0 a (zp_n u.2.1) := hz
          obtain ⟨-, nc2, pd2, e1, e2, e3⟩ := hz
          obtain rfl : nc = nc2 := by omega
          obtain rfl : pd = pd2 := by omega
          have y1 := zs_sp_le e3 (fr' := Gm a 14) (bad' := Gm a 19) (by omega) (fun _ => hmb.2.1)
          rw [← mv24, ← mv25, ← mv27, ← mv28] at y1
          obtain ⟨y3, y4⟩ := zs_sp_settle y1 c10 c5
          rw [hpk] at y3
          have x13 : (zp_set (zp_set Gs a 29 (k9 : Int)) a 30 x137) a 13 = Gs a 13 := (zp_set_ne (Or.inr (by decide))).trans (zp_set_ne (Or.inr (by decide)))
          have x14 : (zp_set (zp_set Gs a 29 (k9 : Int)) a 30 x137) a 14 = Gs a 14 := (zp_set_ne (Or.inr (by decide))).trans (zp_set_ne (Or.inr (by decide)))
          have x15 : (zp_set (zp_set Gs a 29 (k9 : Int)) a 30 x137) a 15 = Gs a 15 := (zp_set_ne (Or.inr (by decide))).trans (zp_set_ne (Or.inr (by decide)))
          have x16 : (zp_set (zp_set Gs a 29 (k9 : Int)) a 30 x137) a 16 = Gs a 16 := (zp_set_ne (Or.inr (by decide))).trans (zp_set_ne (Or.inr (by decide)))
          have x19 : (zp_set (zp_set Gs a 29 (k9 : Int)) a 30 x137) a 19 = Gs a 19 := (zp_set_ne (Or.inr (by decide))).trans (zp_set_ne (Or.inr (by decide)))
          have x23 : (zp_set (zp_set Gs a 29 (k9 : Int)) a 30 x137) a 23 = Gs a 23 := (zp_set_ne (Or.inr (by decide))).trans (zp_set_ne (Or.inr (by decide)))
          have x24 : (zp_set (zp_set Gs a 29 (k9 : Int)) a 30 x137) a 24 = Gs a 24 := (zp_set_ne (Or.inr (by decide))).trans (zp_set_ne (Or.inr (by decide)))
          have x25 : (zp_set (zp_set Gs a 29 (k9 : Int)) a 30 x137) a 25 = Gs a 25 := (zp_set_ne (Or.inr (by decide))).trans (zp_set_ne (Or.inr (by decide)))
          have x27 : (zp_set (zp_set Gs a 29 (k9 : Int)) a 30 x137) a 27 = Gs a 27 := (zp_set_ne (Or.inr (by decide))).trans (zp_set_ne (Or.inr (by decide)))
          have x28 : (zp_set (zp_set Gs a 29 (k9 : Int)) a 30 x137) a 28 = Gs a 28 := (zp_set_ne (Or.inr (by decide))).trans (zp_set_ne (Or.inr (by decide)))
          have x29 : (zp_set (zp_set Gs a 29 (k9 : Int)) a 30 x137) a 29 = (k9 : Int) := ((zp_set_ne (Or.inr (by decide))).trans (zp_set_self))
          have xv24 : ∀ j, zv (zp_set (zp_set Gs a 29 (k9 : Int)) a 30 x137) a 24 j = zv Gs a 24 j := fun j => by rw [zv_eq (x24.trans s24), zv_eq s24, zp_set_ne (Or.inl (zp_pne hq24 hp (by decide))), zp_set_ne (Or.inl (zp_pne hq24 hp (by decide)))]
          have xv25 : ∀ j, zv (zp_set (zp_set Gs a 29 (k9 : Int)) a 30 x137) a 25 j = zv Gs a 25 j := fun j => by rw [zv_eq (x25.trans s25), zv_eq s25, zp_set_ne (Or.inl (zp_pne hq25 hp (by decide))), zp_set_ne (Or.inl (zp_pne hq25 hp (by decide)))]
          have xv27 : ∀ j, zv (zp_set (zp_set Gs a 29 (k9 : Int)) a 30 x137) a 27 j = zv Gs a 27 j := fun j => by rw [zv_eq (x27.trans s27), zv_eq s27, zp_set_ne (Or.inl (zp_pne hq27 hp (by decide))), zp_set_ne (Or.inl (zp_pne hq27 hp (by decide)))]
          have xv28 : ∀ j, zv (zp_set (zp_set Gs a 29 (k9 : Int)) a 30 x137) a 28 j = zv Gs a 28 j := fun j => by rw [zv_eq (x28.trans s28), zv_eq s28, zp_set_ne (Or.inl (zp_pne hq28 hp (by decide))), zp_set_ne (Or.inl (zp_pne hq28 hp (by decide)))]
          show zs_go a first 1 0 (zp_n u.2.1) (zp_set (zp_set Gs a 29 (k9 : Int)) a 30 x137)
          refine ⟨zs_mk (zs_sp_popb y3 htp) (zs_tk_congr htm (x13.trans s13) (x14.trans s14) (x15.trans s15) (x16.trans s16)) (x23.trans c3) x29 (x19.trans s19) (x14.trans s14) xv24 xv25 (fun q => (xv27 q).trans (c8 q)) (fun q => (xv28 q).trans (c9 q)), fun q hq => ?_, ?_, fun _ => ⟨hmb.2.1, ?_⟩⟩
          · rw [xv24, xv25, (y4 q hq).1, (y4 q hq).2, mv24, mv25]; exact ⟨rfl, rfl⟩
          · rw [x14, s14]; omega
          · rw [x14, s14]; omega
      · refine zp_const (pc := 84) hx hb (zd_X12_behindTest (84, .iconst 4, 1, 0, []) (List.mem_of_getElem? (i := 42) rfl)) rfl rfl ?_
        refine zp_iret (pc := 85) (n := 4) hx hb hE hQ hU5 rfl (by decide) (zd_X12_behindTest (85, .ireturn, 1, 0, []) (List.mem_of_getElem? (i := 43) rfl)) (j := 0) rfl (zp_o0 (by omega) (by omega) (by omega) (by omega)) ?_
        rw [hps]
        refine ⟨rfl, by show 4 = 0 ∨ 4 = 2 ∨ 4 = 4; decide, fun _ => ⟨rfl, ?_⟩, fun first hz => ⟨fun z => absurd z (by decide), fun z => absurd z (by decide)⟩⟩
        show ∀ i : Nat, (i : Int) < zp_n u.2.1 a 29 → zv (zp_n u.2.1) a 27 i < 31
        rcases hti with ⟨h1, h2⟩ | ⟨i, h1, h2, h3, h4⟩
        · exact h2
        · omega
    · exact h22 rnw (by omega) (by omega)
