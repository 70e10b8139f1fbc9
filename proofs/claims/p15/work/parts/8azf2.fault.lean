/-! part 8azf2: fault, exactly -/
def zK_flc : zk_K := (zt_mn 115, prog_1_method_18_code, 1, (Option.some Jvm.ClassFile.FieldType.int), 1, 11, [(2, 12, 0, 0)], [(some (0, 0, (-2147483648), 2147483647), [])], [], (0, 0, 0, 0))
def zψ_flc : (Nat → Option Nat) → (Nat → Nat → Int) → List Int → (Nat → Option Nat) → (Nat → Nat → Int) → Int → Prop := fun P G ps P' G' rn => P' = P ∧ rn = G (G (zp_0 ps) 9).toNat 2
theorem zX_flc {l : Launch} {w : zk_W} (hW : zh_W w) : zk_metX l w zt_dv zt_TB zK_flc (zp_A zp_tA) (zp_B zψ_flc) ∧ zk_cok w zt_TB zK_flc := by
  refine zp_methX (cn := "WoundTown") zp_lkallW hW (pl := 1042) rfl (by decide +kernel) (fun p e R s m args below meth c Q u hx hb hE hQ hU5 heff hnL hok hφ => ?_)
  have hw := hW.1
  obtain ⟨p0, hps, k0⟩ := zp_ps1 hok
  obtain ⟨a, rfl, hp⟩ := zp_this k0
  have hrm : zk_Kr (zk_ev (zt_types, zp_lkW, zt_dv, [], [], zp_lcW, zK_flc)) = zk_Kr zK_flc := rfl
  rw [hps] at hφ ⊢
  show zp_J p l e R s m args below meth c Q w u [] 0 [(0, 2, (a : Int))] [] u.1 (zp_n u.2.1)
  refine zp_kn (k := 9) (a := a) hw (show zp_fd 12 9 = some (11, 2, 5, 0, 0) from rfl) rfl hp (fun hkrd => ?_)
  obtain ⟨rd, hrd, qrd⟩ := zp_this hkrd
  refine zp_kn (k := 2) (a := rd) hw (show zp_fd 5 2 = some (5, 0, 0, (-2147483648), 2147483647) from rfl) rfl qrd (fun hkft => ?_)
  obtain ⟨ft, hft⟩ : ∃ z0 : Int, (zp_n u.2.1) rd 2 = z0 := ⟨_, rfl⟩
  have hftb := zp_int hkft
  rw [hft] at hftb
  have htr : (zp_n u.2.1 a 9).toNat = rd := by rw [hrd, Int.toNat_natCast]
  refine zp_load (pc := 0) hx hb (zd_X11_fault (0, .aload_n 0, 1, 0, []) (List.mem_of_getElem? (i := 0) rfl)) rfl (j := 0) rfl ?_
  refine zp_getf (n := (rd : Int)) (pc := 1) hx hb hE hw (zd_X11_fault (1, .getfield 76, 3, 0, []) (List.mem_of_getElem? (i := 1) rfl)) (j := 59) rfl rfl rfl hp hrd ?_
  refine zp_getf (n := ft) (pc := 4) hx hb hE hw (zd_X11_fault (4, .getfield 286, 3, 0, []) (List.mem_of_getElem? (i := 2) rfl)) (j := 48) rfl rfl rfl qrd hft ?_
  refine zp_iret (pc := 7) (n := ft) hx hb hE hQ hU5 rfl (by decide) (zd_X11_fault (7, .ireturn, 1, 0, []) (List.mem_of_getElem? (i := 3) rfl)) (j := 0) rfl (zp_o0 (by omega) (by omega) (by omega) (by omega)) ?_
  rw [hps]
  refine ⟨rfl, ?_⟩
  show ft = zp_n u.2.1 (zp_n u.2.1 a 9).toNat 2
  rw [htr]
  omega
def zK_mfl : zk_K := (zt_mn 208, prog_14_method_43_code, 1, (Option.some Jvm.ClassFile.FieldType.int), 1, 12, [(2, 13, 0, 0)], [(some (0, 0, (-2147483648), 2147483647), [])], [(13, 0, 0)], (0, 0, 0, 0))
def zψ_mfl : (Nat → Option Nat) → (Nat → Nat → Int) → List Int → (Nat → Option Nat) → (Nat → Nat → Int) → Int → Prop := fun P G ps P' G' rn => P' = P ∧ rn = G (zp_0 ps) 18
theorem zX_mfl {l : Launch} {w : zk_W} (hW : zh_W w) : zk_metX l w zt_dv zt_TB zK_mfl (zp_A zp_tA) (zp_B zψ_mfl) ∧ zk_cok w zt_TB zK_mfl := by
  refine zp_methX (cn := "WoundTownModel") zp_lkall hW (pl := 1668) rfl (by decide +kernel) (fun p e R s m args below meth c Q u hx hb hE hQ hU5 heff hnL hok hφ => ?_)
  have hw := hW.1
  obtain ⟨p0, hps, k0⟩ := zp_ps1 hok
  obtain ⟨a, rfl, hp⟩ := zp_this k0
  have hrm : zk_Kr (zk_ev (zt_types, zp_lk, zt_dv, [], [], zp_lc, zK_mfl)) = zk_Kr zK_mfl := rfl
  rw [hps] at hφ ⊢
  show zp_J p l e R s m args below meth c Q w u [] 0 [(0, 2, (a : Int))] [] u.1 (zp_n u.2.1)
  refine zp_kn (k := 18) (a := a) hw (show zp_fd 13 18 = some (12, 0, 0, (-2147483648), 2147483647) from rfl) rfl hp (fun hkft => ?_)
  obtain ⟨ft, hft⟩ : ∃ z0 : Int, (zp_n u.2.1) a 18 = z0 := ⟨_, rfl⟩
  have hftb := zp_int hkft
  rw [hft] at hftb
  refine zp_load (pc := 0) hx hb (zd_X12_fault (0, .aload_n 0, 1, 0, []) (List.mem_of_getElem? (i := 0) rfl)) rfl (j := 0) rfl ?_
  refine zp_const (pc := 1) hx hb (zd_X12_fault (1, .iconst 0, 1, 0, []) (List.mem_of_getElem? (i := 1) rfl)) rfl rfl ?_
  refine zp_putf (pc := 2) hx hb hE hw heff (zd_X12_fault (2, .putfield 161, 3, 0, []) (List.mem_of_getElem? (i := 2) rfl)) (j := 18) rfl rfl rfl hp (zp_o0 (by decide) (by decide) (by decide) (by decide)) ?_
  refine zp_load (pc := 5) hx hb (zd_X12_fault (5, .aload_n 0, 1, 0, []) (List.mem_of_getElem? (i := 3) rfl)) rfl (j := 0) rfl ?_
  refine zp_getf (n := ft) (pc := 6) hx hb hE hw (zd_X12_fault (6, .getfield 38, 3, 0, []) (List.mem_of_getElem? (i := 4) rfl)) (j := 36) rfl rfl rfl hp ((zp_set_ne (Or.inr (by decide))).trans (hft)) ?_
  refine zp_iret (pc := 9) (n := ft) hx hb hE hQ hU5 rfl (by decide) (zd_X12_fault (9, .ireturn, 1, 0, []) (List.mem_of_getElem? (i := 5) rfl)) (j := 0) rfl (zp_o0 (by omega) (by omega) (by omega) (by omega)) ?_
  rw [hps]
  refine ⟨rfl, ?_⟩
  show ft = zp_n u.2.1 a 18
  omega
