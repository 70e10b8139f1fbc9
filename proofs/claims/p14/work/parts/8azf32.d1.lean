/-! part d1: the class's tape: words, numbers -/
noncomputable def zp_lkT9 : List zk_L := zp_lkT
noncomputable def zp_lcT9 : List (Nat × Nat × Nat) := [(0, 22, 43), (0, 25, 37), (1, 38, 44), (0, 45, 47), (0, 50, 49), (4, 60, 15), (0, 41, 46)]
theorem zp_lkallT9 : (zp_lkT9.all (zt_lkin "WoundTown$Tape") && zp_lcT9.all (zt_lcin "WoundTown$Tape")) = true := by decide +kernel
noncomputable def zj_ψl (n : Nat) : (Nat → Option Nat) → (Nat → Nat → Int) → List Int → (Nat → Option Nat) → (Nat → Nat → Int) → Int → Prop := fun P G _ P' G' rn => P' = P ∧ G' = G ∧ rn = (n : Int)
theorem zj_lenX {l : Launch} {w : zk_W} (hW : zh_W w) {t n : Nat} (ht : 200 ≤ t) (hn : zt_tn[t - 200]? = some n) (hn1 : n ≤ 1000) : zk_metX l w zt_dv zt_TB (zj_Kl t n) zk_tA (zp_B (zj_ψl n)) ∧ zk_cok w zt_TB (zj_Kl t n) := by
  have hcok : zk_cok w zt_TB (zj_Kl t n) := zt_cok_ok (pl := 737) (K := zj_Kl 200 0) hW.2.1 (by decide +kernel)
  refine zj_metB hW (show (1 : Nat) ≠ 2 by decide) rfl hcok ?_
  intro p e R s m args below meth c Q P0 G0 ps X hx hb _ hps hE hQ H locs ls hG
  obtain ⟨⟨e1, e2, e3⟩, e4, e5, e6, e7, e8, e9, e10, e11, e12, e13, e14, e15, e16, e17, e18, e19, y1, y2, y3⟩ := hE [] P0 G0 [] (zk_Ka (zj_Kl t n)) ps (zk_Kp (zj_Kl t n)) (zk_all2_len hps).symm (fun _ _ h => h)
  have hb : c.code = prog_17_method_54_code := hb
  have hr : meth.sig.returnType = some .int := e18.2.1
  have hlk := e18.1
  have hown : s.vm.findClass "java/lang/String" = some m.cls := e6
  have hml : c.maxLocals = 1 := e1
  have hR1 : 8 ≤ R.frames := e13.1
  have hR2 : 200 ≤ R.locals := e13.2.1
  have hS : va_S (fun q => w.2.2.2.1 ≤ q) s.heap H locs := hG.2.2.2.2.2.2.2.2.1
  match ps, hps with
  | [a0], hps =>
  obtain ⟨hp0, hp1, hp2, hp3⟩ : (0 : Int) ≤ a0 ∧ -1 ≤ a0 ∧ ((0 : Int) < 0 → a0 < 0) ∧ (0 ≤ a0 → P0 a0.toNat = some t) := hps.1
  obtain ⟨a, rfl⟩ : ∃ a : Nat, a0 = (a : Int) := ⟨a0.toNat, by omega⟩
  have hpa : P0 a = some t := by
    have := hp3 hp0
    rwa [Int.toNat_natCast] at this
  have hta := zj_text hW hG.2.2.2.2.1 ht hpa
  obtain ⟨lv, hl, hlv⟩ := hG.2.2.2.2.2.1
  match lv, hlv with
  | [(j0, v0)], hlv =>
  obtain ⟨hj, hv0⟩ : 0 = j0 ∧ zk_sv (zk_k0 (zt_types, [], zt_dv, [], [], [], zj_Kl t n)).1 ([0, 0, -1] ++ [(a : Int)]) (3, 0) v0 := hlv.1
  subst hj
  have hv0 := zh_vr hv0 (t := t) (lo := 0) (hi := 0) (a := a) rfl rfl
  subst hv0
  have hl0 : ls[0]? = some (.val (.ref a)) := lv_at hl 0 rfl
  obtain ⟨n', v, f, q1, q2, q3, q4, q5, q6⟩ := hW.2.2.2.2.2.2.2.1 s y2 t a hta
  obtain rfl : n = n' := Option.some.inj (hn.symm.trans q1)
  refine lv_aload_n (pc := 0) (k := 0) hx hb (i := 0) (by decide +kernel) rfl hl0 ?_
  refine vk_getf (own := "java/lang/String") (pc := 1) (index := 9) hx hb q4 hS hown (zt_wd_ok (i := 2063) (by decide +kernel) e4) (fun x h => h) (by decide +kernel) ?_
  refine va_tlen (pc := 4) hx hb q5 hS rfl (by decide +kernel) ?_
  refine lv_aload_n (pc := 5) (k := 0) hx hb (i := 0) (by decide +kernel) rfl hl0 ?_
  have hrc2 : ∃ cell : Cell, H[a]? = some cell ∧ cell.vm.isStatics = false ∧ s.vm.findClass "java/lang/String" = some cell.cls := by
    obtain ⟨cell, c1, c2, c3, -⟩ := q2.kept hS.2.1
    exact ⟨cell, c1, c2, c3⟩
  refine zj_call (w := w) (rest := [.int (Int32.ofNat n)]) (zj_inst (own := "java/lang/String") (pc := 6) (As := []) (idx := 335) (p1 := 741) (p2 := 738) (p3 := 129) (p4 := 739) (p5 := 740) hx hb hml hown e4 (zj_coder hW hta) (by decide +kernel) (by decide +kernel) (zj_blind hW.2.2.1) (zj_Z hW.2.2.1 e9 hS y2) hrc2 hl.1 (by show 1 + 0 ≤ 8; decide) ⟨by show 0 + 1 ≤ _; omega, by show 8 + (1 + 11) + 0 ≤ _; omega⟩ rfl rfl ⟨Nat.zero_le _, Nat.zero_le _⟩ (by decide +kernel)) hS (fun locs1 hS1 => ?_)
  refine lv_ishr (pc := 9) hx hb (by decide +kernel) ?_
  have hz : (Int32.ofNat n : Int32) >>> ((0 : Int32) &&& 31) = Int32.ofInt (n : Int) := by
    rw [show ((0 : Int32) &&& 31) = 0 by decide, Int32.shiftRight_zero]
    rfl
  rw [hz]
  have hG2 : zk_G w s (P0, G0, [(a : Int)], zk_Ke (zj_Kl t n), [], (zj_Kl t n).2.2.1, X) (zk_k0 (zt_types, [], zt_dv, [], [], [], zj_Kl t n)) ([0, 0, -1] ++ [(a : Int)]) P0 G0 H locs1 ls := by
    obtain ⟨g1, g2, g3, g4, g5, g6, g7, g8, g9, g10, g11, g12, g13⟩ := hG
    exact ⟨g1, g2, g3, g4, g5, g6, g7, g8, hS1, g10, g11, g12, g13⟩
  have fin : ∀ t' : State, t'.heap = H → s.WarmedH t'.vm → zk_postX w (zj_Kl t n) (zp_B (zj_ψl n)) P0 G0 [(a : Int)] s t' (.returned (some (.int (Int32.ofInt n)))) := fun t' ht' hW' => zk_fin (u := (P0, G0, [(a : Int)], zk_Ke (zj_Kl t n), [], (zj_Kl t n).2.2.1, X)) (K := zj_Kl t n) (al := (some (0, 0, (n : Int), (n : Int)), [])) (rn := n) (X0 := fun _ => True) e8 e7 rfl e19 hG2 (by unfold zk_rct; exact if_neg (show ¬ (1 : Nat) = 2 by decide)) (List.mem_singleton.mpr rfl) (fun f h => by cases h; exact ⟨⟨Int.le_refl _, Int.le_refl _, by constructor <;> omega⟩, Nat.zero_le _⟩) (fun q h => absurd h List.not_mem_nil) (Or.inl ⟨by show (1 : Nat) ≠ 2; decide, rfl, rfl, rfl⟩) t' ht' hW'
  rw [hQ]
  exact W.iret hx hb hr (fun t' ht' hW' => fin t' ht' hW') hS1.2.2 (by decide +kernel) hlk
theorem zY_len {l : Launch} {w : zk_W} (hW : zh_W w) {t n : Nat} (ht : 200 ≤ t) (hn : zt_tn[t - 200]? = some n) (hn1 : n ≤ 1000) : zk_metX l w zt_dv zt_TB (zj_Kl t n) (zp_A zp_tA) (zp_B (zj_ψl n)) ∧ zk_cok w zt_TB (zj_Kl t n) := zj_lenX hW ht hn hn1
theorem zY_chr {l : Launch} {w : zk_W} (hW : zh_W w) {t n : Nat} (ht : 200 ≤ t) (hn : zt_tn[t - 200]? = some n) (hn1 : n ≤ 1000) : zk_metX l w zt_dv zt_TB (zj_Kc t ((n : Int) - 1)) (zp_A zp_tA) (zp_B (zj_ψ t)) ∧ zk_cok w zt_TB (zj_Kc t ((n : Int) - 1)) := zj_charX hW ht hn hn1
theorem zTt_len {t b : Nat} {G : Nat → Nat → Int} {B : Nat → Int} {ln tk : Nat} (h : zTt t b G B ln tk) : zy_fr B ln tk ≤ zy_to B ln tk ∧ zy_to B ln tk ≤ ln ∧ ln ≤ 400 := ⟨(zy_to_le h.2.2.1).1, (zy_to_le h.2.2.1).2.1, h.1.2.2.1⟩
theorem zs_ix_le {S : Nat → Int} : ∀ k, zs_ix S k ≤ k
  | 0 => Nat.le_refl 0
  | k + 1 => by
    have ih := zs_ix_le (S := S) k
    show (if S k = 32 then zs_ix S k + 1 else zs_ix S k) ≤ k + 1
    split <;> omega
/-- the bytes as they are asked for: none behind the end -/
noncomputable def zBc (B : Nat → Int) (ln : Nat) : Nat → Int := fun j => if j < ln then B j else -1
theorem zBc_ww {B : Nat → Int} {ln f : Nat} : ∀ m, f + m ≤ ln → zy_ww (zBc B ln) f m = zy_ww B f m
  | 0, _ => rfl
  | m + 1, h => by
    have ih := zBc_ww (B := B) (ln := ln) (f := f) m (by omega)
    have e : zBc B ln (f + m) = B (f + m) := if_pos (by omega)
    show (if m < 10 then zy_ww (zBc B ln) f m * 32 + zBc B ln (f + m) - 96 else -1) = (if m < 10 then zy_ww B f m * 32 + B (f + m) - 96 else -1)
    rw [ih, e]
/-- a word's letters -/
theorem zBc_let {t b : Nat} {G : Nat → Nat → Int} {B : Nat → Int} {ln tk : Nat} (h : zTt t b G B ln tk) (hs : zy_so B ln tk = 1) : (∀ i, i < zy_to B ln tk - zy_fr B ln tk → 97 ≤ zBc B ln (zy_fr B ln tk + i) ∧ zBc B ln (zy_fr B ln tk + i) ≤ 122) ∧ zy_ww (zBc B ln) (zy_fr B ln tk) (zy_to B ln tk - zy_fr B ln tk) = zy_wo B ln tk := by
  have hl := zTt_len h
  constructor
  · intro i hi
    have e : zBc B ln (zy_fr B ln tk + i) = B (zy_fr B ln tk + i) := if_pos (by omega)
    rw [e]
    exact zy_sm_i.mp (zy_r_all (len := ln) (p := zy_fr B ln tk) (by omega) (by rw [← zy_to_1 hs]; omega))
  · rw [zBc_ww _ (by omega)]
    unfold zy_wo
    rw [if_pos hs]
noncomputable def zK_vwlc : zk_K := (zt_mn 46, prog_9_method_10_code, 6, (Option.some Jvm.ClassFile.FieldType.int), 1, 7, [(2, 7, 0, 0), (2, 209, 0, 0)], [(some (0, 0, (-1), 400), [])], [], (9, 221, 0, 0))
noncomputable def zφ_vwlc (b : Nat) (B : Nat → Int) (ln tk : Nat) : (Nat → Option Nat) → (Nat → Nat → Int) → List Int → Prop := fun P G ps => zTt (zp_0 ps) b G B ln tk
noncomputable def zψ_vwlc (b : Nat) (B : Nat → Int) (ln tk : Nat) : (Nat → Option Nat) → (Nat → Nat → Int) → List Int → (Nat → Option Nat) → (Nat → Nat → Int) → Int → Prop := fun P G ps P' G' rn => P' = P ∧ G' = G ∧ rn = if zy_so B ln tk = 1 then zs_g za_lc 28 (zBc B ln) (zy_fr B ln tk) ((zy_to B ln tk - zy_fr B ln tk : Nat) : Int) 0 else -1
theorem zX_vwlc {l : Launch} {w : zk_W} (hW : zh_W w) (b : Nat) (B : Nat → Int) (ln tk : Nat) : zk_metX l w zt_dv zt_TB zK_vwlc (zp_A (zφ_vwlc b B ln tk)) (zp_B (zψ_vwlc b B ln tk)) ∧ zk_cok w zt_TB zK_vwlc := by
  refine zp_methX (cn := "WoundTown$Tape") zp_lkallT9 hW (pl := 733) rfl (by decide +kernel) (fun p e R s m args below meth c Q u hx hb hE hQ hU5 heff hnL hok hφ => ?_)
  have hw := hW.1
  obtain ⟨p0, p1, hps, k0, k1⟩ := zp_ps2 hok
  obtain ⟨a, rfl, hp⟩ := zp_this k0
  have hrm : zk_Kr (zk_ev (zt_types, zp_lkT9, zt_dv, [], [], zp_lcT9, zK_vwlc)) = zk_Kr zK_vwlc := rfl
  rw [hps] at hφ ⊢
  show zp_J p l e R s m args below meth c Q w u [] 0 [(0, 2, (a : Int)), (1, 2, p1)] [] u.1 (zp_n u.2.1)
  obtain ⟨sx, rfl, qs⟩ := zp_this k1
  have hT : zTt a b (zp_n u.2.1) B ln tk := hφ
  have hlen := zTt_len hT
  obtain ⟨⟨t0, t1, t2, t3⟩, t5, t6, c2, c3, c4, c5⟩ := hT
  obtain ⟨so, hso⟩ : ∃ x : Nat, x = zy_so B ln tk := ⟨_, rfl⟩
  obtain ⟨f, hf⟩ : ∃ x : Nat, x = zy_fr B ln tk := ⟨_, rfl⟩
  obtain ⟨q, hq⟩ : ∃ x : Nat, x = zy_to B ln tk := ⟨_, rfl⟩
  rw [← hso] at c2
  rw [← hf] at c3 hlen
  rw [← hq] at c4 hlen
  obtain ⟨m9, hm⟩ : ∃ x : Nat, x = q - f := ⟨_, rfl⟩
  have hby : ∀ j, zt_by 9 j = za_lc j := fun j => rfl
  have tail : so = 1 → zs_g za_lc 28 (zBc B ln) f (m9 : Int) 0 = -1 → ∀ (sm ix : Int), zp_J p l e R s m args below meth c Q w u [] 17 [(4, 0, 29), (3, 0, sm), (2, 0, ix), (0, 2, (a : Int)), (1, 2, (sx : Int))] [] u.1 (zp_n u.2.1) := by
    intro hs1 hg sm ix
    refine zp_load (pc := 17) hx hb (zd_X7_wordIn (17, .iload 4, 2, 0, []) (List.mem_of_getElem? (i := 12) rfl)) rfl (j := 0) rfl ?_
    refine zp_load (pc := 19) hx hb (zd_X7_wordIn (19, .aload_n 1, 1, 0, []) (List.mem_of_getElem? (i := 13) rfl)) rfl (j := 4) rfl ?_
    refine zp_callS (pc := 20) (how := 0) (idx := 45) (mi := 47) (S := [(0, 29)]) hx hb hE hw heff hrm (zY_len hW (t := 209) (n := 28) (by decide) rfl (by decide)) rfl (j := 3) rfl rfl (by decide +kernel) (zd_X7_wordIn (20, .invokevirtual 45, 3, 0, []) (List.mem_of_getElem? (i := 14) rfl)) [(sx : Int)] rfl ⟨zp_o2 qs, trivial⟩ (Nat.le_of_ble_eq_true rfl) trivial (fun al hal rnl21 Pl21 Gl21 hextl21 hfrl21 hokl21 hcsl21 hpsil21 => ?_)
    obtain rfl := List.mem_singleton.mp hal
    have hrl21 := zp_int (hokl21 _ rfl).1
    obtain ⟨hPel21, hGel21, htl21⟩ := hpsil21
    rw [hPel21, hGel21]
    obtain rfl : rnl21 = 28 := htl21
    refine zp_icmp (pc := 23) (tgt := 112) hx hb (zd_X7_wordIn (23, .if_icmp .gt 89, 3, 0, []) (List.mem_of_getElem? (i := 15) rfl)) rfl (fun (hc22 : 28 < 29) => ?_) (fun (hc22 : ¬ (28 < 29)) => ?_)
    · refine zp_const (pc := 112) hx hb (zd_X7_wordIn (112, .iconst (-1), 1, 0, []) (List.mem_of_getElem? (i := 61) rfl)) rfl rfl ?_
      refine zp_iret (pc := 113) (n := (-1)) hx hb hE hQ hU5 rfl (by decide) (zd_X7_wordIn (113, .ireturn, 1, 0, []) (List.mem_of_getElem? (i := 62) rfl)) (j := 0) rfl (zp_o0 (by omega) (by omega) (by omega) (by omega)) ?_
      rw [hps]
      refine ⟨rfl, rfl, ?_⟩
      rw [← hso, if_pos hs1, ← hf, ← hq, ← hm]
      exact hg.symm
    · exfalso
      omega
  have loop : so = 1 → ∀ (n9 k : Nat), 29 - k < n9 → k ≤ 28 → zs_g za_lc 28 (zBc B ln) f (m9 : Int) 0 = zs_g za_lc 28 (zBc B ln) f (m9 : Int) k → zp_J p l e R s m args below meth c Q w u [] 17 [(4, 0, (k : Int)), (3, 0, (zs_sm za_lc (zBc B ln) f k)), (2, 0, ((zs_ix za_lc k : Nat) : Int)), (0, 2, (a : Int)), (1, 2, (sx : Int))] [] u.1 (zp_n u.2.1) := by
    intro hs1 n9
    induction n9 with
    | zero => intro k h; exact absurd h (Nat.not_lt_zero _)
    | succ n9 ih =>
      intro k hn hk hg
      have hsm := zs_sm_le (S := za_lc) (B := zBc B ln) (st := f) k
      have hix := zs_ix_le (S := za_lc) k
      obtain ⟨sm, hsm0⟩ : ∃ x : Int, x = zs_sm za_lc (zBc B ln) f k := ⟨_, rfl⟩
      obtain ⟨ix, hix0⟩ : ∃ x : Nat, x = zs_ix za_lc k := ⟨_, rfl⟩
      rw [← hsm0, ← hix0]
      rw [← hsm0] at hsm
      rw [← hix0] at hix
      have e1 : zs_sm za_lc (zBc B ln) f (k + 1) = if za_lc k = 32 then 0 else if sm ≠ -1 ∧ zBc B ln (f + sm.toNat) = za_lc k then sm + 1 else -1 := by
        rw [hsm0]
        rfl
      have e2 : zs_ix za_lc (k + 1) = if za_lc k = 32 then ix + 1 else ix := by
        rw [hix0]
        rfl
      have go : ¬ ((k = 28 ∨ za_lc k = 32) ∧ sm = (m9 : Int)) → zs_g za_lc 28 (zBc B ln) f (m9 : Int) 0 = zs_g za_lc 28 (zBc B ln) f (m9 : Int) (k + 1) := fun z => by
        rw [hg, zs_g_step hk, if_neg (by rw [← hsm0]; exact z)]
      refine zp_load (pc := 17) hx hb (zd_X7_wordIn (17, .iload 4, 2, 0, []) (List.mem_of_getElem? (i := 12) rfl)) rfl (j := 0) rfl ?_
      refine zp_load (pc := 19) hx hb (zd_X7_wordIn (19, .aload_n 1, 1, 0, []) (List.mem_of_getElem? (i := 13) rfl)) rfl (j := 4) rfl ?_
      refine zp_callS (pc := 20) (how := 0) (idx := 45) (mi := 47) (S := [(0, (k : Int))]) hx hb hE hw heff hrm (zY_len hW (t := 209) (n := 28) (by decide) rfl (by decide)) rfl (j := 3) rfl rfl (by decide +kernel) (zd_X7_wordIn (20, .invokevirtual 45, 3, 0, []) (List.mem_of_getElem? (i := 14) rfl)) [(sx : Int)] rfl ⟨zp_o2 qs, trivial⟩ (Nat.le_of_ble_eq_true rfl) trivial (fun al hal rnl23 Pl23 Gl23 hextl23 hfrl23 hokl23 hcsl23 hpsil23 => ?_)
      obtain rfl := List.mem_singleton.mp hal
      have hrl23 := zp_int (hokl23 _ rfl).1
      obtain ⟨hPel23, hGel23, htl23⟩ := hpsil23
      rw [hPel23, hGel23]
      obtain rfl : rnl23 = 28 := htl23
      refine zp_icmp (pc := 23) (tgt := 112) hx hb (zd_X7_wordIn (23, .if_icmp .gt 89, 3, 0, []) (List.mem_of_getElem? (i := 15) rfl)) rfl (fun (hc24 : 28 < (k : Int)) => ?_) (fun (hc24 : ¬ (28 < (k : Int))) => ?_)
      · refine zp_const (pc := 112) hx hb (zd_X7_wordIn (112, .iconst (-1), 1, 0, []) (List.mem_of_getElem? (i := 61) rfl)) rfl rfl ?_
        exfalso
        omega
      · refine zp_load (pc := 26) hx hb (zd_X7_wordIn (26, .iload 4, 2, 0, []) (List.mem_of_getElem? (i := 16) rfl)) rfl (j := 0) rfl ?_
        refine zp_load (pc := 28) hx hb (zd_X7_wordIn (28, .aload_n 1, 1, 0, []) (List.mem_of_getElem? (i := 17) rfl)) rfl (j := 4) rfl ?_
        refine zp_callS (pc := 29) (how := 0) (idx := 45) (mi := 47) (S := [(0, (k : Int))]) hx hb hE hw heff hrm (zY_len hW (t := 209) (n := 28) (by decide) rfl (by decide)) rfl (j := 3) rfl rfl (by decide +kernel) (zd_X7_wordIn (29, .invokevirtual 45, 3, 0, []) (List.mem_of_getElem? (i := 18) rfl)) [(sx : Int)] rfl ⟨zp_o2 qs, trivial⟩ (Nat.le_of_ble_eq_true rfl) trivial (fun al hal rnl25 Pl25 Gl25 hextl25 hfrl25 hokl25 hcsl25 hpsil25 => ?_)
        obtain rfl := List.mem_singleton.mp hal
        have hrl25 := zp_int (hokl25 _ rfl).1
        obtain ⟨hPel25, hGel25, htl25⟩ := hpsil25
        rw [hPel25, hGel25]
        obtain rfl : rnl25 = 28 := htl25
        refine zp_icmp (pc := 32) (tgt := 44) hx hb (zd_X7_wordIn (32, .if_icmp .ge 12, 3, 0, []) (List.mem_of_getElem? (i := 19) rfl)) rfl (fun (hc26 : 28 ≤ (k : Int)) => ?_) (fun (hc26 : ¬ (28 ≤ (k : Int))) => ?_)
        · refine zp_const (pc := 44) hx hb (zd_X7_wordIn (44, .bipush 32, 2, 0, []) (List.mem_of_getElem? (i := 24) rfl)) rfl rfl ?_
          refine zp_store (L' := [(5, 0, 32), (4, 0, (k : Int)), (3, 0, sm), (2, 0, (ix : Int)), (0, 2, (a : Int)), (1, 2, (sx : Int))]) (pc := 46) hx hb hnL (zd_X7_wordIn (46, .istore 5, 2, 0, []) (List.mem_of_getElem? (i := 25) rfl)) rfl rfl rfl ?_
          refine zp_load (pc := 48) hx hb (zd_X7_wordIn (48, .iload 5, 2, 0, []) (List.mem_of_getElem? (i := 26) rfl)) rfl (j := 0) rfl ?_
          refine zp_const (pc := 50) hx hb (zd_X7_wordIn (50, .bipush 32, 2, 0, []) (List.mem_of_getElem? (i := 27) rfl)) rfl rfl ?_
          refine zp_icmp (pc := 52) (tgt := 86) hx hb (zd_X7_wordIn (52, .if_icmp .eq 34, 3, 0, []) (List.mem_of_getElem? (i := 28) rfl)) rfl (fun (hc27 : 32 = 32) => ?_) (fun (hc27 : ¬ (32 = 32)) => ?_)
          · refine zp_load (pc := 86) hx hb (zd_X7_wordIn (86, .iload_n 3, 1, 0, []) (List.mem_of_getElem? (i := 47) rfl)) rfl (j := 2) rfl ?_
            refine zp_load (pc := 87) hx hb (zd_X7_wordIn (87, .aload_n 0, 1, 0, []) (List.mem_of_getElem? (i := 48) rfl)) rfl (j := 4) rfl ?_
            refine zp_getf (n := (q : Int)) (pc := 88) hx hb hE hw (zd_X7_wordIn (88, .getfield 19, 3, 0, []) (List.mem_of_getElem? (i := 49) rfl)) (j := 5) rfl rfl rfl hp c4 ?_
            refine zp_load (pc := 91) hx hb (zd_X7_wordIn (91, .aload_n 0, 1, 0, []) (List.mem_of_getElem? (i := 50) rfl)) rfl (j := 4) rfl ?_
            refine zp_getf (n := (f : Int)) (pc := 92) hx hb hE hw (zd_X7_wordIn (92, .getfield 29, 3, 0, []) (List.mem_of_getElem? (i := 51) rfl)) (j := 4) rfl rfl rfl hp c3 ?_
            refine zp_sub (n := ((q : Int) + (-1) * (f : Int))) (pc := 95) hx hb (zd_X7_wordIn (95, .isub, 1, 0, []) (List.mem_of_getElem? (i := 52) rfl)) (by omega) (zp_r0 (by omega) (by omega)) ?_
            refine zp_icmp (pc := 96) (tgt := 101) hx hb (zd_X7_wordIn (96, .if_icmp .ne 5, 3, 0, []) (List.mem_of_getElem? (i := 53) rfl)) rfl (fun (hc28 : ¬ sm = ((q : Int) + (-1) * (f : Int))) => ?_) (fun (hc28 : ¬ (¬ sm = ((q : Int) + (-1) * (f : Int)))) => ?_)
            · refine zp_iinc (L' := [(2, 0, ((ix : Int) + 1)), (5, 0, 32), (4, 0, (k : Int)), (3, 0, sm), (0, 2, (a : Int)), (1, 2, (sx : Int))]) (n := ((ix : Int) + 1)) (pc := 101) hx hb hnL (zd_X7_wordIn (101, .iinc 2 1, 3, 0, []) (List.mem_of_getElem? (i := 56) rfl)) (j := 3) rfl (by omega) (zp_r0 (by omega) (by omega)) rfl rfl ?_
              refine zp_const (pc := 104) hx hb (zd_X7_wordIn (104, .iconst 0, 1, 0, []) (List.mem_of_getElem? (i := 57) rfl)) rfl rfl ?_
              refine zp_store (L' := [(3, 0, 0), (2, 0, ((ix : Int) + 1)), (5, 0, 32), (4, 0, (k : Int)), (0, 2, (a : Int)), (1, 2, (sx : Int))]) (pc := 105) hx hb hnL (zd_X7_wordIn (105, .istore_n 3, 1, 0, []) (List.mem_of_getElem? (i := 58) rfl)) rfl rfl rfl ?_
              refine zp_iinc (L' := [(4, 0, ((k : Int) + 1)), (3, 0, 0), (2, 0, ((ix : Int) + 1)), (5, 0, 32), (0, 2, (a : Int)), (1, 2, (sx : Int))]) (n := ((k : Int) + 1)) (pc := 106) hx hb hnL (zd_X7_wordIn (106, .iinc 4 1, 3, 0, []) (List.mem_of_getElem? (i := 59) rfl)) (j := 3) rfl (by omega) (zp_r0 (by omega) (by omega)) rfl rfl ?_
              refine zp_goto (tgt := 17) (pc := 109) hx hb (zd_X7_wordIn (109, .goto (-92), 3, 0, []) (List.mem_of_getElem? (i := 60) rfl)) rfl ?_
              refine zp_drop (L' := [(4, 0, 29), (3, 0, 0), (2, 0, ((ix : Int) + 1)), (0, 2, (a : Int)), (1, 2, (sx : Int))]) (by simp <;> omega) ?_
              have hkn : k = 28 := by omega
              exact tail hs1 ((go (fun z => by omega)).trans (zs_g_end (by omega))) _ _
            · refine zp_load (pc := 99) hx hb (zd_X7_wordIn (99, .iload_n 2, 1, 0, []) (List.mem_of_getElem? (i := 54) rfl)) rfl (j := 3) rfl ?_
              refine zp_iret (pc := 100) (n := (ix : Int)) hx hb hE hQ hU5 rfl (by decide) (zd_X7_wordIn (100, .ireturn, 1, 0, []) (List.mem_of_getElem? (i := 55) rfl)) (j := 0) rfl (zp_o0 (by omega) (by omega) (by omega) (by omega)) ?_
              rw [hps]
              refine ⟨rfl, rfl, ?_⟩
              rw [← hso, if_pos hs1, ← hf, ← hq, ← hm, hg, zs_g_step hk, if_pos ⟨by omega, by rw [← hsm0]; omega⟩, ← hix0]
          · exfalso
            omega
        · refine zp_load (pc := 35) hx hb (zd_X7_wordIn (35, .aload_n 1, 1, 0, []) (List.mem_of_getElem? (i := 20) rfl)) rfl (j := 4) rfl ?_
          refine zp_load (pc := 36) hx hb (zd_X7_wordIn (36, .iload 4, 2, 0, []) (List.mem_of_getElem? (i := 21) rfl)) rfl (j := 0) rfl ?_
          refine zp_callS (pc := 38) (how := 0) (idx := 50) (mi := 49) (S := []) hx hb hE hw heff hrm (zY_chr hW (t := 209) (n := 28) (by decide) rfl (by decide)) rfl (j := 4) rfl rfl (by decide +kernel) (zd_X7_wordIn (38, .invokevirtual 50, 3, 0, []) (List.mem_of_getElem? (i := 22) rfl)) [(sx : Int), (k : Int)] rfl ⟨zp_o2 qs, zp_o0 (by omega) (by omega) (by omega) (by omega), trivial⟩ (Nat.le_of_ble_eq_true rfl) trivial (fun al hal rnc29 Pc29 Gc29 hextc29 hfrc29 hokc29 hcsc29 hpsic29 => ?_)
          obtain rfl := List.mem_singleton.mp hal
          have hrc29 := zp_int (hokc29 _ rfl).1
          obtain ⟨hPec29, hGec29, htc29⟩ := hpsic29
          rw [hPec29, hGec29]
          have hcc29 : rnc29 = za_lc k := by
            refine htc29.trans ?_
            show zt_by (209 - 200) ((k : Int)).toNat = _
            rw [Int.toNat_natCast]
            exact hby k
          refine zp_goto (tgt := 46) (pc := 41) hx hb (zd_X7_wordIn (41, .goto 5, 3, 0, []) (List.mem_of_getElem? (i := 23) rfl)) rfl ?_
          refine zp_store (L' := [(5, 0, rnc29), (4, 0, (k : Int)), (3, 0, sm), (2, 0, (ix : Int)), (0, 2, (a : Int)), (1, 2, (sx : Int))]) (pc := 46) hx hb hnL (zd_X7_wordIn (46, .istore 5, 2, 0, []) (List.mem_of_getElem? (i := 25) rfl)) rfl rfl rfl ?_
          refine zp_load (pc := 48) hx hb (zd_X7_wordIn (48, .iload 5, 2, 0, []) (List.mem_of_getElem? (i := 26) rfl)) rfl (j := 0) rfl ?_
          refine zp_const (pc := 50) hx hb (zd_X7_wordIn (50, .bipush 32, 2, 0, []) (List.mem_of_getElem? (i := 27) rfl)) rfl rfl ?_
          refine zp_icmp (pc := 52) (tgt := 86) hx hb (zd_X7_wordIn (52, .if_icmp .eq 34, 3, 0, []) (List.mem_of_getElem? (i := 28) rfl)) rfl (fun (hc30 : rnc29 = 32) => ?_) (fun (hc30 : ¬ (rnc29 = 32)) => ?_)
          · refine zp_load (pc := 86) hx hb (zd_X7_wordIn (86, .iload_n 3, 1, 0, []) (List.mem_of_getElem? (i := 47) rfl)) rfl (j := 2) rfl ?_
            refine zp_load (pc := 87) hx hb (zd_X7_wordIn (87, .aload_n 0, 1, 0, []) (List.mem_of_getElem? (i := 48) rfl)) rfl (j := 4) rfl ?_
            refine zp_getf (n := (q : Int)) (pc := 88) hx hb hE hw (zd_X7_wordIn (88, .getfield 19, 3, 0, []) (List.mem_of_getElem? (i := 49) rfl)) (j := 5) rfl rfl rfl hp c4 ?_
            refine zp_load (pc := 91) hx hb (zd_X7_wordIn (91, .aload_n 0, 1, 0, []) (List.mem_of_getElem? (i := 50) rfl)) rfl (j := 4) rfl ?_
            refine zp_getf (n := (f : Int)) (pc := 92) hx hb hE hw (zd_X7_wordIn (92, .getfield 29, 3, 0, []) (List.mem_of_getElem? (i := 51) rfl)) (j := 4) rfl rfl rfl hp c3 ?_
            refine zp_sub (n := ((q : Int) + (-1) * (f : Int))) (pc := 95) hx hb (zd_X7_wordIn (95, .isub, 1, 0, []) (List.mem_of_getElem? (i := 52) rfl)) (by omega) (zp_r0 (by omega) (by omega)) ?_
            refine zp_icmp (pc := 96) (tgt := 101) hx hb (zd_X7_wordIn (96, .if_icmp .ne 5, 3, 0, []) (List.mem_of_getElem? (i := 53) rfl)) rfl (fun (hc31 : ¬ sm = ((q : Int) + (-1) * (f : Int))) => ?_) (fun (hc31 : ¬ (¬ sm = ((q : Int) + (-1) * (f : Int)))) => ?_)
            · refine zp_iinc (L' := [(2, 0, ((ix : Int) + 1)), (5, 0, rnc29), (4, 0, (k : Int)), (3, 0, sm), (0, 2, (a : Int)), (1, 2, (sx : Int))]) (n := ((ix : Int) + 1)) (pc := 101) hx hb hnL (zd_X7_wordIn (101, .iinc 2 1, 3, 0, []) (List.mem_of_getElem? (i := 56) rfl)) (j := 3) rfl (by omega) (zp_r0 (by omega) (by omega)) rfl rfl ?_
              refine zp_const (pc := 104) hx hb (zd_X7_wordIn (104, .iconst 0, 1, 0, []) (List.mem_of_getElem? (i := 57) rfl)) rfl rfl ?_
              refine zp_store (L' := [(3, 0, 0), (2, 0, ((ix : Int) + 1)), (5, 0, rnc29), (4, 0, (k : Int)), (0, 2, (a : Int)), (1, 2, (sx : Int))]) (pc := 105) hx hb hnL (zd_X7_wordIn (105, .istore_n 3, 1, 0, []) (List.mem_of_getElem? (i := 58) rfl)) rfl rfl rfl ?_
              refine zp_iinc (L' := [(4, 0, ((k : Int) + 1)), (3, 0, 0), (2, 0, ((ix : Int) + 1)), (5, 0, rnc29), (0, 2, (a : Int)), (1, 2, (sx : Int))]) (n := ((k : Int) + 1)) (pc := 106) hx hb hnL (zd_X7_wordIn (106, .iinc 4 1, 3, 0, []) (List.mem_of_getElem? (i := 59) rfl)) (j := 3) rfl (by omega) (zp_r0 (by omega) (by omega)) rfl rfl ?_
              refine zp_goto (tgt := 17) (pc := 109) hx hb (zd_X7_wordIn (109, .goto (-92), 3, 0, []) (List.mem_of_getElem? (i := 60) rfl)) rfl ?_
              refine zp_drop (L' := [(4, 0, ((k + 1 : Nat) : Int)), (3, 0, 0), (2, 0, ((ix + 1 : Nat) : Int)), (0, 2, (a : Int)), (1, 2, (sx : Int))]) (by simp <;> omega) ?_
              have ih9 := ih (k + 1) (by omega) (by omega) (go (fun z => by omega))
              rw [e1, e2] at ih9
              rw [if_pos (by omega), if_pos (by omega)] at ih9
              exact ih9
            · refine zp_load (pc := 99) hx hb (zd_X7_wordIn (99, .iload_n 2, 1, 0, []) (List.mem_of_getElem? (i := 54) rfl)) rfl (j := 3) rfl ?_
              refine zp_iret (pc := 100) (n := (ix : Int)) hx hb hE hQ hU5 rfl (by decide) (zd_X7_wordIn (100, .ireturn, 1, 0, []) (List.mem_of_getElem? (i := 55) rfl)) (j := 0) rfl (zp_o0 (by omega) (by omega) (by omega) (by omega)) ?_
              rw [hps]
              refine ⟨rfl, rfl, ?_⟩
              rw [← hso, if_pos hs1, ← hf, ← hq, ← hm, hg, zs_g_step hk, if_pos ⟨by omega, by rw [← hsm0]; omega⟩, ← hix0]
          · refine zp_load (pc := 55) hx hb (zd_X7_wordIn (55, .iload_n 3, 1, 0, []) (List.mem_of_getElem? (i := 29) rfl)) rfl (j := 2) rfl ?_
            refine zp_const (pc := 56) hx hb (zd_X7_wordIn (56, .iconst (-1), 1, 0, []) (List.mem_of_getElem? (i := 30) rfl)) rfl rfl ?_
            refine zp_icmp (pc := 57) (tgt := 81) hx hb (zd_X7_wordIn (57, .if_icmp .eq 24, 3, 0, []) (List.mem_of_getElem? (i := 31) rfl)) rfl (fun (hc32 : sm = (-1)) => ?_) (fun (hc32 : ¬ (sm = (-1))) => ?_)
            · refine zp_const (pc := 81) hx hb (zd_X7_wordIn (81, .iconst (-1), 1, 0, []) (List.mem_of_getElem? (i := 44) rfl)) rfl rfl ?_
              refine zp_store (L' := [(3, 0, (-1)), (5, 0, rnc29), (4, 0, (k : Int)), (2, 0, (ix : Int)), (0, 2, (a : Int)), (1, 2, (sx : Int))]) (pc := 82) hx hb hnL (zd_X7_wordIn (82, .istore_n 3, 1, 0, []) (List.mem_of_getElem? (i := 45) rfl)) rfl rfl rfl ?_
              refine zp_goto (tgt := 106) (pc := 83) hx hb (zd_X7_wordIn (83, .goto 23, 3, 0, []) (List.mem_of_getElem? (i := 46) rfl)) rfl ?_
              refine zp_iinc (L' := [(4, 0, ((k : Int) + 1)), (3, 0, (-1)), (5, 0, rnc29), (2, 0, (ix : Int)), (0, 2, (a : Int)), (1, 2, (sx : Int))]) (n := ((k : Int) + 1)) (pc := 106) hx hb hnL (zd_X7_wordIn (106, .iinc 4 1, 3, 0, []) (List.mem_of_getElem? (i := 59) rfl)) (j := 2) rfl (by omega) (zp_r0 (by omega) (by omega)) rfl rfl ?_
              refine zp_goto (tgt := 17) (pc := 109) hx hb (zd_X7_wordIn (109, .goto (-92), 3, 0, []) (List.mem_of_getElem? (i := 60) rfl)) rfl ?_
              refine zp_drop (L' := [(4, 0, ((k + 1 : Nat) : Int)), (3, 0, (-1)), (2, 0, (ix : Int)), (0, 2, (a : Int)), (1, 2, (sx : Int))]) (by simp <;> omega) ?_
              have ih9 := ih (k + 1) (by omega) (by omega) (go (fun z => by omega))
              rw [e1, e2] at ih9
              rw [if_neg (by omega), if_neg (by omega), if_neg (by omega)] at ih9
              exact ih9
            · refine zp_load (pc := 60) hx hb (zd_X7_wordIn (60, .aload_n 0, 1, 0, []) (List.mem_of_getElem? (i := 32) rfl)) rfl (j := 4) rfl ?_
              refine zp_load (pc := 61) hx hb (zd_X7_wordIn (61, .aload_n 0, 1, 0, []) (List.mem_of_getElem? (i := 33) rfl)) rfl (j := 4) rfl ?_
              refine zp_getf (n := (f : Int)) (pc := 62) hx hb hE hw (zd_X7_wordIn (62, .getfield 29, 3, 0, []) (List.mem_of_getElem? (i := 34) rfl)) (j := 4) rfl rfl rfl hp c3 ?_
              refine zp_load (pc := 65) hx hb (zd_X7_wordIn (65, .iload_n 3, 1, 0, []) (List.mem_of_getElem? (i := 35) rfl)) rfl (j := 2) rfl ?_
              refine zp_add (n := ((f : Int) + sm)) (pc := 66) hx hb (zd_X7_wordIn (66, .iadd, 1, 0, []) (List.mem_of_getElem? (i := 36) rfl)) (by omega) (zp_r0 (by omega) (by omega)) ?_
              refine zp_call (pc := 67) (how := 0) (idx := 25) (mi := 37) (S := []) hx hb hE hw heff hrm (zX_bya hW) rfl (j := 1) rfl rfl (by decide +kernel) (zd_X7_wordIn (67, .invokevirtual 25, 3, 0, []) (List.mem_of_getElem? (i := 37) rfl)) [(a : Int), ((f : Int) + sm)] rfl ⟨zp_o2 hp, zp_o0 (by omega) (by omega) (by omega) (by omega), trivial⟩ (Nat.le_of_ble_eq_true rfl) trivial (fun al hal rnb33 Pb33 Gb33 hextb33 hfrb33 hokb33 hcsb33 hpsib33 => ?_)
              obtain rfl := List.mem_singleton.mp hal
              have hrb33 := zp_int (hokb33 _ rfl).1
              obtain ⟨hPeb33, hGeb33, htb33⟩ := hpsib33
              rw [hPeb33, hGeb33]
              have hvb33 : rnb33 = zBc B ln (f + sm.toNat) := by
                have h9 := htb33 (f + sm.toNat) (show ((f : Int) + sm) = ((f + sm.toNat : Nat) : Int) by omega)
                unfold zBc
                by_cases z : f + sm.toNat < ln
                · rw [if_pos z]
                  refine (h9.1 (show ((f + sm.toNat : Nat) : Int) < zp_n u.2.1 a 1 by rw [t1]; omega)).trans ?_
                  show zp_n u.2.1 (zp_n u.2.1 a 0).toNat (2000 + (f + sm.toNat)) = _
                  rw [t0, Int.toNat_natCast]
                  exact t3 _
                · rw [if_neg z]
                  exact h9.2 (show ¬ ((f + sm.toNat : Nat) : Int) < zp_n u.2.1 a 1 by rw [t1]; omega)
              refine zp_load (pc := 70) hx hb (zd_X7_wordIn (70, .iload 5, 2, 0, []) (List.mem_of_getElem? (i := 38) rfl)) rfl (j := 0) rfl ?_
              refine zp_icmp (pc := 72) (tgt := 81) hx hb (zd_X7_wordIn (72, .if_icmp .ne 9, 3, 0, []) (List.mem_of_getElem? (i := 39) rfl)) rfl (fun (hc34 : ¬ rnb33 = rnc29) => ?_) (fun (hc34 : ¬ (¬ rnb33 = rnc29)) => ?_)
              · refine zp_const (pc := 81) hx hb (zd_X7_wordIn (81, .iconst (-1), 1, 0, []) (List.mem_of_getElem? (i := 44) rfl)) rfl rfl ?_
                refine zp_store (L' := [(3, 0, (-1)), (5, 0, rnc29), (4, 0, (k : Int)), (2, 0, (ix : Int)), (0, 2, (a : Int)), (1, 2, (sx : Int))]) (pc := 82) hx hb hnL (zd_X7_wordIn (82, .istore_n 3, 1, 0, []) (List.mem_of_getElem? (i := 45) rfl)) rfl rfl rfl ?_
                refine zp_goto (tgt := 106) (pc := 83) hx hb (zd_X7_wordIn (83, .goto 23, 3, 0, []) (List.mem_of_getElem? (i := 46) rfl)) rfl ?_
                refine zp_iinc (L' := [(4, 0, ((k : Int) + 1)), (3, 0, (-1)), (5, 0, rnc29), (2, 0, (ix : Int)), (0, 2, (a : Int)), (1, 2, (sx : Int))]) (n := ((k : Int) + 1)) (pc := 106) hx hb hnL (zd_X7_wordIn (106, .iinc 4 1, 3, 0, []) (List.mem_of_getElem? (i := 59) rfl)) (j := 2) rfl (by omega) (zp_r0 (by omega) (by omega)) rfl rfl ?_
                refine zp_goto (tgt := 17) (pc := 109) hx hb (zd_X7_wordIn (109, .goto (-92), 3, 0, []) (List.mem_of_getElem? (i := 60) rfl)) rfl ?_
                refine zp_drop (L' := [(4, 0, ((k + 1 : Nat) : Int)), (3, 0, (-1)), (2, 0, (ix : Int)), (0, 2, (a : Int)), (1, 2, (sx : Int))]) (by simp <;> omega) ?_
                have ih9 := ih (k + 1) (by omega) (by omega) (go (fun z => by omega))
                rw [e1, e2] at ih9
                rw [if_neg (by omega), if_neg (by omega), if_neg (by omega)] at ih9
                exact ih9
              · refine zp_load (pc := 75) hx hb (zd_X7_wordIn (75, .iload_n 3, 1, 0, []) (List.mem_of_getElem? (i := 40) rfl)) rfl (j := 2) rfl ?_
                refine zp_const (pc := 76) hx hb (zd_X7_wordIn (76, .iconst 1, 1, 0, []) (List.mem_of_getElem? (i := 41) rfl)) rfl rfl ?_
                refine zp_add (n := (sm + 1)) (pc := 77) hx hb (zd_X7_wordIn (77, .iadd, 1, 0, []) (List.mem_of_getElem? (i := 42) rfl)) (by omega) (zp_r0 (by omega) (by omega)) ?_
                refine zp_goto (tgt := 82) (pc := 78) hx hb (zd_X7_wordIn (78, .goto 4, 3, 0, []) (List.mem_of_getElem? (i := 43) rfl)) rfl ?_
                refine zp_store (L' := [(3, 0, (sm + 1)), (5, 0, rnc29), (4, 0, (k : Int)), (2, 0, (ix : Int)), (0, 2, (a : Int)), (1, 2, (sx : Int))]) (pc := 82) hx hb hnL (zd_X7_wordIn (82, .istore_n 3, 1, 0, []) (List.mem_of_getElem? (i := 45) rfl)) rfl rfl rfl ?_
                refine zp_goto (tgt := 106) (pc := 83) hx hb (zd_X7_wordIn (83, .goto 23, 3, 0, []) (List.mem_of_getElem? (i := 46) rfl)) rfl ?_
                refine zp_iinc (L' := [(4, 0, ((k : Int) + 1)), (3, 0, (sm + 1)), (5, 0, rnc29), (2, 0, (ix : Int)), (0, 2, (a : Int)), (1, 2, (sx : Int))]) (n := ((k : Int) + 1)) (pc := 106) hx hb hnL (zd_X7_wordIn (106, .iinc 4 1, 3, 0, []) (List.mem_of_getElem? (i := 59) rfl)) (j := 2) rfl (by omega) (zp_r0 (by omega) (by omega)) rfl rfl ?_
                refine zp_goto (tgt := 17) (pc := 109) hx hb (zd_X7_wordIn (109, .goto (-92), 3, 0, []) (List.mem_of_getElem? (i := 60) rfl)) rfl ?_
                refine zp_drop (L' := [(4, 0, ((k + 1 : Nat) : Int)), (3, 0, (sm + 1)), (2, 0, (ix : Int)), (0, 2, (a : Int)), (1, 2, (sx : Int))]) (by simp <;> omega) ?_
                have ih9 := ih (k + 1) (by omega) (by omega) (go (fun z => by omega))
                rw [e1, e2] at ih9
                rw [if_neg (by omega), if_pos ⟨by omega, by omega⟩, if_neg (by omega)] at ih9
                exact ih9
  refine zp_load (pc := 0) hx hb (zd_X7_wordIn (0, .aload_n 0, 1, 0, []) (List.mem_of_getElem? (i := 0) rfl)) rfl (j := 0) rfl ?_
  refine zp_getf (n := (so : Int)) (pc := 1) hx hb hE hw (zd_X7_wordIn (1, .getfield 35, 3, 0, []) (List.mem_of_getElem? (i := 1) rfl)) (j := 3) rfl rfl rfl hp c2 ?_
  refine zp_const (pc := 4) hx hb (zd_X7_wordIn (4, .iconst 1, 1, 0, []) (List.mem_of_getElem? (i := 2) rfl)) rfl rfl ?_
  refine zp_icmp (pc := 5) (tgt := 10) hx hb (zd_X7_wordIn (5, .if_icmp .eq 5, 3, 0, []) (List.mem_of_getElem? (i := 3) rfl)) rfl (fun (hc35 : (so : Int) = 1) => ?_) (fun (hc35 : ¬ ((so : Int) = 1)) => ?_)
  · refine zp_const (pc := 10) hx hb (zd_X7_wordIn (10, .iconst 0, 1, 0, []) (List.mem_of_getElem? (i := 6) rfl)) rfl rfl ?_
    refine zp_store (L' := [(2, 0, 0), (0, 2, (a : Int)), (1, 2, (sx : Int))]) (pc := 11) hx hb hnL (zd_X7_wordIn (11, .istore_n 2, 1, 0, []) (List.mem_of_getElem? (i := 7) rfl)) rfl rfl rfl ?_
    refine zp_const (pc := 12) hx hb (zd_X7_wordIn (12, .iconst 0, 1, 0, []) (List.mem_of_getElem? (i := 8) rfl)) rfl rfl ?_
    refine zp_store (L' := [(3, 0, 0), (2, 0, 0), (0, 2, (a : Int)), (1, 2, (sx : Int))]) (pc := 13) hx hb hnL (zd_X7_wordIn (13, .istore_n 3, 1, 0, []) (List.mem_of_getElem? (i := 9) rfl)) rfl rfl rfl ?_
    refine zp_const (pc := 14) hx hb (zd_X7_wordIn (14, .iconst 0, 1, 0, []) (List.mem_of_getElem? (i := 10) rfl)) rfl rfl ?_
    refine zp_store (L' := [(4, 0, 0), (3, 0, 0), (2, 0, 0), (0, 2, (a : Int)), (1, 2, (sx : Int))]) (pc := 15) hx hb hnL (zd_X7_wordIn (15, .istore 4, 2, 0, []) (List.mem_of_getElem? (i := 11) rfl)) rfl rfl rfl ?_
    have h9 := loop (by omega) 30 0 (by omega) (by omega) rfl
    exact h9
  · refine zp_const (pc := 8) hx hb (zd_X7_wordIn (8, .iconst (-1), 1, 0, []) (List.mem_of_getElem? (i := 4) rfl)) rfl rfl ?_
    refine zp_iret (pc := 9) (n := (-1)) hx hb hE hQ hU5 rfl (by decide) (zd_X7_wordIn (9, .ireturn, 1, 0, []) (List.mem_of_getElem? (i := 5) rfl)) (j := 0) rfl (zp_o0 (by omega) (by omega) (by omega) (by omega)) ?_
    rw [hps]
    refine ⟨rfl, rfl, ?_⟩
    rw [← hso, if_neg (by omega)]
noncomputable def zK_vwlw : zk_K := (zt_mn 46, prog_9_method_10_code, 6, (Option.some Jvm.ClassFile.FieldType.int), 1, 7, [(2, 7, 0, 0), (2, 202, 0, 0)], [(some (0, 0, (-1), 400), [])], [], (9, 221, 0, 0))
noncomputable def zφ_vwlw (b : Nat) (B : Nat → Int) (ln tk : Nat) : (Nat → Option Nat) → (Nat → Nat → Int) → List Int → Prop := fun P G ps => zTt (zp_0 ps) b G B ln tk
noncomputable def zψ_vwlw (b : Nat) (B : Nat → Int) (ln tk : Nat) : (Nat → Option Nat) → (Nat → Nat → Int) → List Int → (Nat → Option Nat) → (Nat → Nat → Int) → Int → Prop := fun P G ps P' G' rn => P' = P ∧ G' = G ∧ rn = if zy_so B ln tk = 1 then zs_g za_lw 48 (zBc B ln) (zy_fr B ln tk) ((zy_to B ln tk - zy_fr B ln tk : Nat) : Int) 0 else -1
theorem zX_vwlw {l : Launch} {w : zk_W} (hW : zh_W w) (b : Nat) (B : Nat → Int) (ln tk : Nat) : zk_metX l w zt_dv zt_TB zK_vwlw (zp_A (zφ_vwlw b B ln tk)) (zp_B (zψ_vwlw b B ln tk)) ∧ zk_cok w zt_TB zK_vwlw := by
  refine zp_methX (cn := "WoundTown$Tape") zp_lkallT9 hW (pl := 733) rfl (by decide +kernel) (fun p e R s m args below meth c Q u hx hb hE hQ hU5 heff hnL hok hφ => ?_)
  have hw := hW.1
  obtain ⟨p0, p1, hps, k0, k1⟩ := zp_ps2 hok
  obtain ⟨a, rfl, hp⟩ := zp_this k0
  have hrm : zk_Kr (zk_ev (zt_types, zp_lkT9, zt_dv, [], [], zp_lcT9, zK_vwlw)) = zk_Kr zK_vwlw := rfl
  rw [hps] at hφ ⊢
  show zp_J p l e R s m args below meth c Q w u [] 0 [(0, 2, (a : Int)), (1, 2, p1)] [] u.1 (zp_n u.2.1)
  obtain ⟨sx, rfl, qs⟩ := zp_this k1
  have hT : zTt a b (zp_n u.2.1) B ln tk := hφ
  have hlen := zTt_len hT
  obtain ⟨⟨t0, t1, t2, t3⟩, t5, t6, c2, c3, c4, c5⟩ := hT
  obtain ⟨so, hso⟩ : ∃ x : Nat, x = zy_so B ln tk := ⟨_, rfl⟩
  obtain ⟨f, hf⟩ : ∃ x : Nat, x = zy_fr B ln tk := ⟨_, rfl⟩
  obtain ⟨q, hq⟩ : ∃ x : Nat, x = zy_to B ln tk := ⟨_, rfl⟩
  rw [← hso] at c2
  rw [← hf] at c3 hlen
  rw [← hq] at c4 hlen
  obtain ⟨m9, hm⟩ : ∃ x : Nat, x = q - f := ⟨_, rfl⟩
  have hby : ∀ j, zt_by 2 j = za_lw j := fun j => rfl
  have tail : so = 1 → zs_g za_lw 48 (zBc B ln) f (m9 : Int) 0 = -1 → ∀ (sm ix : Int), zp_J p l e R s m args below meth c Q w u [] 17 [(4, 0, 49), (3, 0, sm), (2, 0, ix), (0, 2, (a : Int)), (1, 2, (sx : Int))] [] u.1 (zp_n u.2.1) := by
    intro hs1 hg sm ix
    refine zp_load (pc := 17) hx hb (zd_X7_wordIn (17, .iload 4, 2, 0, []) (List.mem_of_getElem? (i := 12) rfl)) rfl (j := 0) rfl ?_
    refine zp_load (pc := 19) hx hb (zd_X7_wordIn (19, .aload_n 1, 1, 0, []) (List.mem_of_getElem? (i := 13) rfl)) rfl (j := 4) rfl ?_
    refine zp_callS (pc := 20) (how := 0) (idx := 45) (mi := 47) (S := [(0, 49)]) hx hb hE hw heff hrm (zY_len hW (t := 202) (n := 48) (by decide) rfl (by decide)) rfl (j := 3) rfl rfl (by decide +kernel) (zd_X7_wordIn (20, .invokevirtual 45, 3, 0, []) (List.mem_of_getElem? (i := 14) rfl)) [(sx : Int)] rfl ⟨zp_o2 qs, trivial⟩ (Nat.le_of_ble_eq_true rfl) trivial (fun al hal rnl36 Pl36 Gl36 hextl36 hfrl36 hokl36 hcsl36 hpsil36 => ?_)
    obtain rfl := List.mem_singleton.mp hal
    have hrl36 := zp_int (hokl36 _ rfl).1
    obtain ⟨hPel36, hGel36, htl36⟩ := hpsil36
    rw [hPel36, hGel36]
    obtain rfl : rnl36 = 48 := htl36
    refine zp_icmp (pc := 23) (tgt := 112) hx hb (zd_X7_wordIn (23, .if_icmp .gt 89, 3, 0, []) (List.mem_of_getElem? (i := 15) rfl)) rfl (fun (hc37 : 48 < 49) => ?_) (fun (hc37 : ¬ (48 < 49)) => ?_)
    · refine zp_const (pc := 112) hx hb (zd_X7_wordIn (112, .iconst (-1), 1, 0, []) (List.mem_of_getElem? (i := 61) rfl)) rfl rfl ?_
      refine zp_iret (pc := 113) (n := (-1)) hx hb hE hQ hU5 rfl (by decide) (zd_X7_wordIn (113, .ireturn, 1, 0, []) (List.mem_of_getElem? (i := 62) rfl)) (j := 0) rfl (zp_o0 (by omega) (by omega) (by omega) (by omega)) ?_
      rw [hps]
      refine ⟨rfl, rfl, ?_⟩
      rw [← hso, if_pos hs1, ← hf, ← hq, ← hm]
      exact hg.symm
    · exfalso
      omega
  have loop : so = 1 → ∀ (n9 k : Nat), 49 - k < n9 → k ≤ 48 → zs_g za_lw 48 (zBc B ln) f (m9 : Int) 0 = zs_g za_lw 48 (zBc B ln) f (m9 : Int) k → zp_J p l e R s m args below meth c Q w u [] 17 [(4, 0, (k : Int)), (3, 0, (zs_sm za_lw (zBc B ln) f k)), (2, 0, ((zs_ix za_lw k : Nat) : Int)), (0, 2, (a : Int)), (1, 2, (sx : Int))] [] u.1 (zp_n u.2.1) := by
    intro hs1 n9
    induction n9 with
    | zero => intro k h; exact absurd h (Nat.not_lt_zero _)
    | succ n9 ih =>
      intro k hn hk hg
      have hsm := zs_sm_le (S := za_lw) (B := zBc B ln) (st := f) k
      have hix := zs_ix_le (S := za_lw) k
      obtain ⟨sm, hsm0⟩ : ∃ x : Int, x = zs_sm za_lw (zBc B ln) f k := ⟨_, rfl⟩
      obtain ⟨ix, hix0⟩ : ∃ x : Nat, x = zs_ix za_lw k := ⟨_, rfl⟩
      rw [← hsm0, ← hix0]
      rw [← hsm0] at hsm
      rw [← hix0] at hix
      have e1 : zs_sm za_lw (zBc B ln) f (k + 1) = if za_lw k = 32 then 0 else if sm ≠ -1 ∧ zBc B ln (f + sm.toNat) = za_lw k then sm + 1 else -1 := by
        rw [hsm0]
        rfl
      have e2 : zs_ix za_lw (k + 1) = if za_lw k = 32 then ix + 1 else ix := by
        rw [hix0]
        rfl
      have go : ¬ ((k = 48 ∨ za_lw k = 32) ∧ sm = (m9 : Int)) → zs_g za_lw 48 (zBc B ln) f (m9 : Int) 0 = zs_g za_lw 48 (zBc B ln) f (m9 : Int) (k + 1) := fun z => by
        rw [hg, zs_g_step hk, if_neg (by rw [← hsm0]; exact z)]
      refine zp_load (pc := 17) hx hb (zd_X7_wordIn (17, .iload 4, 2, 0, []) (List.mem_of_getElem? (i := 12) rfl)) rfl (j := 0) rfl ?_
      refine zp_load (pc := 19) hx hb (zd_X7_wordIn (19, .aload_n 1, 1, 0, []) (List.mem_of_getElem? (i := 13) rfl)) rfl (j := 4) rfl ?_
      refine zp_callS (pc := 20) (how := 0) (idx := 45) (mi := 47) (S := [(0, (k : Int))]) hx hb hE hw heff hrm (zY_len hW (t := 202) (n := 48) (by decide) rfl (by decide)) rfl (j := 3) rfl rfl (by decide +kernel) (zd_X7_wordIn (20, .invokevirtual 45, 3, 0, []) (List.mem_of_getElem? (i := 14) rfl)) [(sx : Int)] rfl ⟨zp_o2 qs, trivial⟩ (Nat.le_of_ble_eq_true rfl) trivial (fun al hal rnl38 Pl38 Gl38 hextl38 hfrl38 hokl38 hcsl38 hpsil38 => ?_)
      obtain rfl := List.mem_singleton.mp hal
      have hrl38 := zp_int (hokl38 _ rfl).1
      obtain ⟨hPel38, hGel38, htl38⟩ := hpsil38
      rw [hPel38, hGel38]
      obtain rfl : rnl38 = 48 := htl38
      refine zp_icmp (pc := 23) (tgt := 112) hx hb (zd_X7_wordIn (23, .if_icmp .gt 89, 3, 0, []) (List.mem_of_getElem? (i := 15) rfl)) rfl (fun (hc39 : 48 < (k : Int)) => ?_) (fun (hc39 : ¬ (48 < (k : Int))) => ?_)
      · refine zp_const (pc := 112) hx hb (zd_X7_wordIn (112, .iconst (-1), 1, 0, []) (List.mem_of_getElem? (i := 61) rfl)) rfl rfl ?_
        exfalso
        omega
      · refine zp_load (pc := 26) hx hb (zd_X7_wordIn (26, .iload 4, 2, 0, []) (List.mem_of_getElem? (i := 16) rfl)) rfl (j := 0) rfl ?_
        refine zp_load (pc := 28) hx hb (zd_X7_wordIn (28, .aload_n 1, 1, 0, []) (List.mem_of_getElem? (i := 17) rfl)) rfl (j := 4) rfl ?_
        refine zp_callS (pc := 29) (how := 0) (idx := 45) (mi := 47) (S := [(0, (k : Int))]) hx hb hE hw heff hrm (zY_len hW (t := 202) (n := 48) (by decide) rfl (by decide)) rfl (j := 3) rfl rfl (by decide +kernel) (zd_X7_wordIn (29, .invokevirtual 45, 3, 0, []) (List.mem_of_getElem? (i := 18) rfl)) [(sx : Int)] rfl ⟨zp_o2 qs, trivial⟩ (Nat.le_of_ble_eq_true rfl) trivial (fun al hal rnl40 Pl40 Gl40 hextl40 hfrl40 hokl40 hcsl40 hpsil40 => ?_)
        obtain rfl := List.mem_singleton.mp hal
        have hrl40 := zp_int (hokl40 _ rfl).1
        obtain ⟨hPel40, hGel40, htl40⟩ := hpsil40
        rw [hPel40, hGel40]
        obtain rfl : rnl40 = 48 := htl40
        refine zp_icmp (pc := 32) (tgt := 44) hx hb (zd_X7_wordIn (32, .if_icmp .ge 12, 3, 0, []) (List.mem_of_getElem? (i := 19) rfl)) rfl (fun (hc41 : 48 ≤ (k : Int)) => ?_) (fun (hc41 : ¬ (48 ≤ (k : Int))) => ?_)
        · refine zp_const (pc := 44) hx hb (zd_X7_wordIn (44, .bipush 32, 2, 0, []) (List.mem_of_getElem? (i := 24) rfl)) rfl rfl ?_
          refine zp_store (L' := [(5, 0, 32), (4, 0, (k : Int)), (3, 0, sm), (2, 0, (ix : Int)), (0, 2, (a : Int)), (1, 2, (sx : Int))]) (pc := 46) hx hb hnL (zd_X7_wordIn (46, .istore 5, 2, 0, []) (List.mem_of_getElem? (i := 25) rfl)) rfl rfl rfl ?_
          refine zp_load (pc := 48) hx hb (zd_X7_wordIn (48, .iload 5, 2, 0, []) (List.mem_of_getElem? (i := 26) rfl)) rfl (j := 0) rfl ?_
          refine zp_const (pc := 50) hx hb (zd_X7_wordIn (50, .bipush 32, 2, 0, []) (List.mem_of_getElem? (i := 27) rfl)) rfl rfl ?_
          refine zp_icmp (pc := 52) (tgt := 86) hx hb (zd_X7_wordIn (52, .if_icmp .eq 34, 3, 0, []) (List.mem_of_getElem? (i := 28) rfl)) rfl (fun (hc42 : 32 = 32) => ?_) (fun (hc42 : ¬ (32 = 32)) => ?_)
          · refine zp_load (pc := 86) hx hb (zd_X7_wordIn (86, .iload_n 3, 1, 0, []) (List.mem_of_getElem? (i := 47) rfl)) rfl (j := 2) rfl ?_
            refine zp_load (pc := 87) hx hb (zd_X7_wordIn (87, .aload_n 0, 1, 0, []) (List.mem_of_getElem? (i := 48) rfl)) rfl (j := 4) rfl ?_
            refine zp_getf (n := (q : Int)) (pc := 88) hx hb hE hw (zd_X7_wordIn (88, .getfield 19, 3, 0, []) (List.mem_of_getElem? (i := 49) rfl)) (j := 5) rfl rfl rfl hp c4 ?_
            refine zp_load (pc := 91) hx hb (zd_X7_wordIn (91, .aload_n 0, 1, 0, []) (List.mem_of_getElem? (i := 50) rfl)) rfl (j := 4) rfl ?_
            refine zp_getf (n := (f : Int)) (pc := 92) hx hb hE hw (zd_X7_wordIn (92, .getfield 29, 3, 0, []) (List.mem_of_getElem? (i := 51) rfl)) (j := 4) rfl rfl rfl hp c3 ?_
            refine zp_sub (n := ((q : Int) + (-1) * (f : Int))) (pc := 95) hx hb (zd_X7_wordIn (95, .isub, 1, 0, []) (List.mem_of_getElem? (i := 52) rfl)) (by omega) (zp_r0 (by omega) (by omega)) ?_
            refine zp_icmp (pc := 96) (tgt := 101) hx hb (zd_X7_wordIn (96, .if_icmp .ne 5, 3, 0, []) (List.mem_of_getElem? (i := 53) rfl)) rfl (fun (hc43 : ¬ sm = ((q : Int) + (-1) * (f : Int))) => ?_) (fun (hc43 : ¬ (¬ sm = ((q : Int) + (-1) * (f : Int)))) => ?_)
            · refine zp_iinc (L' := [(2, 0, ((ix : Int) + 1)), (5, 0, 32), (4, 0, (k : Int)), (3, 0, sm), (0, 2, (a : Int)), (1, 2, (sx : Int))]) (n := ((ix : Int) + 1)) (pc := 101) hx hb hnL (zd_X7_wordIn (101, .iinc 2 1, 3, 0, []) (List.mem_of_getElem? (i := 56) rfl)) (j := 3) rfl (by omega) (zp_r0 (by omega) (by omega)) rfl rfl ?_
              refine zp_const (pc := 104) hx hb (zd_X7_wordIn (104, .iconst 0, 1, 0, []) (List.mem_of_getElem? (i := 57) rfl)) rfl rfl ?_
              refine zp_store (L' := [(3, 0, 0), (2, 0, ((ix : Int) + 1)), (5, 0, 32), (4, 0, (k : Int)), (0, 2, (a : Int)), (1, 2, (sx : Int))]) (pc := 105) hx hb hnL (zd_X7_wordIn (105, .istore_n 3, 1, 0, []) (List.mem_of_getElem? (i := 58) rfl)) rfl rfl rfl ?_
              refine zp_iinc (L' := [(4, 0, ((k : Int) + 1)), (3, 0, 0), (2, 0, ((ix : Int) + 1)), (5, 0, 32), (0, 2, (a : Int)), (1, 2, (sx : Int))]) (n := ((k : Int) + 1)) (pc := 106) hx hb hnL (zd_X7_wordIn (106, .iinc 4 1, 3, 0, []) (List.mem_of_getElem? (i := 59) rfl)) (j := 3) rfl (by omega) (zp_r0 (by omega) (by omega)) rfl rfl ?_
              refine zp_goto (tgt := 17) (pc := 109) hx hb (zd_X7_wordIn (109, .goto (-92), 3, 0, []) (List.mem_of_getElem? (i := 60) rfl)) rfl ?_
              refine zp_drop (L' := [(4, 0, 49), (3, 0, 0), (2, 0, ((ix : Int) + 1)), (0, 2, (a : Int)), (1, 2, (sx : Int))]) (by simp <;> omega) ?_
              have hkn : k = 48 := by omega
              exact tail hs1 ((go (fun z => by omega)).trans (zs_g_end (by omega))) _ _
            · refine zp_load (pc := 99) hx hb (zd_X7_wordIn (99, .iload_n 2, 1, 0, []) (List.mem_of_getElem? (i := 54) rfl)) rfl (j := 3) rfl ?_
              refine zp_iret (pc := 100) (n := (ix : Int)) hx hb hE hQ hU5 rfl (by decide) (zd_X7_wordIn (100, .ireturn, 1, 0, []) (List.mem_of_getElem? (i := 55) rfl)) (j := 0) rfl (zp_o0 (by omega) (by omega) (by omega) (by omega)) ?_
              rw [hps]
              refine ⟨rfl, rfl, ?_⟩
              rw [← hso, if_pos hs1, ← hf, ← hq, ← hm, hg, zs_g_step hk, if_pos ⟨by omega, by rw [← hsm0]; omega⟩, ← hix0]
          · exfalso
            omega
        · refine zp_load (pc := 35) hx hb (zd_X7_wordIn (35, .aload_n 1, 1, 0, []) (List.mem_of_getElem? (i := 20) rfl)) rfl (j := 4) rfl ?_
          refine zp_load (pc := 36) hx hb (zd_X7_wordIn (36, .iload 4, 2, 0, []) (List.mem_of_getElem? (i := 21) rfl)) rfl (j := 0) rfl ?_
          refine zp_callS (pc := 38) (how := 0) (idx := 50) (mi := 49) (S := []) hx hb hE hw heff hrm (zY_chr hW (t := 202) (n := 48) (by decide) rfl (by decide)) rfl (j := 4) rfl rfl (by decide +kernel) (zd_X7_wordIn (38, .invokevirtual 50, 3, 0, []) (List.mem_of_getElem? (i := 22) rfl)) [(sx : Int), (k : Int)] rfl ⟨zp_o2 qs, zp_o0 (by omega) (by omega) (by omega) (by omega), trivial⟩ (Nat.le_of_ble_eq_true rfl) trivial (fun al hal rnc44 Pc44 Gc44 hextc44 hfrc44 hokc44 hcsc44 hpsic44 => ?_)
          obtain rfl := List.mem_singleton.mp hal
          have hrc44 := zp_int (hokc44 _ rfl).1
          obtain ⟨hPec44, hGec44, htc44⟩ := hpsic44
          rw [hPec44, hGec44]
          have hcc44 : rnc44 = za_lw k := by
            refine htc44.trans ?_
            show zt_by (202 - 200) ((k : Int)).toNat = _
            rw [Int.toNat_natCast]
            exact hby k
          refine zp_goto (tgt := 46) (pc := 41) hx hb (zd_X7_wordIn (41, .goto 5, 3, 0, []) (List.mem_of_getElem? (i := 23) rfl)) rfl ?_
          refine zp_store (L' := [(5, 0, rnc44), (4, 0, (k : Int)), (3, 0, sm), (2, 0, (ix : Int)), (0, 2, (a : Int)), (1, 2, (sx : Int))]) (pc := 46) hx hb hnL (zd_X7_wordIn (46, .istore 5, 2, 0, []) (List.mem_of_getElem? (i := 25) rfl)) rfl rfl rfl ?_
          refine zp_load (pc := 48) hx hb (zd_X7_wordIn (48, .iload 5, 2, 0, []) (List.mem_of_getElem? (i := 26) rfl)) rfl (j := 0) rfl ?_
          refine zp_const (pc := 50) hx hb (zd_X7_wordIn (50, .bipush 32, 2, 0, []) (List.mem_of_getElem? (i := 27) rfl)) rfl rfl ?_
          refine zp_icmp (pc := 52) (tgt := 86) hx hb (zd_X7_wordIn (52, .if_icmp .eq 34, 3, 0, []) (List.mem_of_getElem? (i := 28) rfl)) rfl (fun (hc45 : rnc44 = 32) => ?_) (fun (hc45 : ¬ (rnc44 = 32)) => ?_)
          · refine zp_load (pc := 86) hx hb (zd_X7_wordIn (86, .iload_n 3, 1, 0, []) (List.mem_of_getElem? (i := 47) rfl)) rfl (j := 2) rfl ?_
            refine zp_load (pc := 87) hx hb (zd_X7_wordIn (87, .aload_n 0, 1, 0, []) (List.mem_of_getElem? (i := 48) rfl)) rfl (j := 4) rfl ?_
            refine zp_getf (n := (q : Int)) (pc := 88) hx hb hE hw (zd_X7_wordIn (88, .getfield 19, 3, 0, []) (List.mem_of_getElem? (i := 49) rfl)) (j := 5) rfl rfl rfl hp c4 ?_
            refine zp_load (pc := 91) hx hb (zd_X7_wordIn (91, .aload_n 0, 1, 0, []) (List.mem_of_getElem? (i := 50) rfl)) rfl (j := 4) rfl ?_
            refine zp_getf (n := (f : Int)) (pc := 92) hx hb hE hw (zd_X7_wordIn (92, .getfield 29, 3, 0, []) (List.mem_of_getElem? (i := 51) rfl)) (j := 4) rfl rfl rfl hp c3 ?_
            refine zp_sub (n := ((q : Int) + (-1) * (f : Int))) (pc := 95) hx hb (zd_X7_wordIn (95, .isub, 1, 0, []) (List.mem_of_getElem? (i := 52) rfl)) (by omega) (zp_r0 (by omega) (by omega)) ?_
            refine zp_icmp (pc := 96) (tgt := 101) hx hb (zd_X7_wordIn (96, .if_icmp .ne 5, 3, 0, []) (List.mem_of_getElem? (i := 53) rfl)) rfl (fun (hc46 : ¬ sm = ((q : Int) + (-1) * (f : Int))) => ?_) (fun (hc46 : ¬ (¬ sm = ((q : Int) + (-1) * (f : Int)))) => ?_)
            · refine zp_iinc (L' := [(2, 0, ((ix : Int) + 1)), (5, 0, rnc44), (4, 0, (k : Int)), (3, 0, sm), (0, 2, (a : Int)), (1, 2, (sx : Int))]) (n := ((ix : Int) + 1)) (pc := 101) hx hb hnL (zd_X7_wordIn (101, .iinc 2 1, 3, 0, []) (List.mem_of_getElem? (i := 56) rfl)) (j := 3) rfl (by omega) (zp_r0 (by omega) (by omega)) rfl rfl ?_
              refine zp_const (pc := 104) hx hb (zd_X7_wordIn (104, .iconst 0, 1, 0, []) (List.mem_of_getElem? (i := 57) rfl)) rfl rfl ?_
              refine zp_store (L' := [(3, 0, 0), (2, 0, ((ix : Int) + 1)), (5, 0, rnc44), (4, 0, (k : Int)), (0, 2, (a : Int)), (1, 2, (sx : Int))]) (pc := 105) hx hb hnL (zd_X7_wordIn (105, .istore_n 3, 1, 0, []) (List.mem_of_getElem? (i := 58) rfl)) rfl rfl rfl ?_
              refine zp_iinc (L' := [(4, 0, ((k : Int) + 1)), (3, 0, 0), (2, 0, ((ix : Int) + 1)), (5, 0, rnc44), (0, 2, (a : Int)), (1, 2, (sx : Int))]) (n := ((k : Int) + 1)) (pc := 106) hx hb hnL (zd_X7_wordIn (106, .iinc 4 1, 3, 0, []) (List.mem_of_getElem? (i := 59) rfl)) (j := 3) rfl (by omega) (zp_r0 (by omega) (by omega)) rfl rfl ?_
              refine zp_goto (tgt := 17) (pc := 109) hx hb (zd_X7_wordIn (109, .goto (-92), 3, 0, []) (List.mem_of_getElem? (i := 60) rfl)) rfl ?_
              refine zp_drop (L' := [(4, 0, ((k + 1 : Nat) : Int)), (3, 0, 0), (2, 0, ((ix + 1 : Nat) : Int)), (0, 2, (a : Int)), (1, 2, (sx : Int))]) (by simp <;> omega) ?_
              have ih9 := ih (k + 1) (by omega) (by omega) (go (fun z => by omega))
              rw [e1, e2] at ih9
              rw [if_pos (by omega), if_pos (by omega)] at ih9
              exact ih9
            · refine zp_load (pc := 99) hx hb (zd_X7_wordIn (99, .iload_n 2, 1, 0, []) (List.mem_of_getElem? (i := 54) rfl)) rfl (j := 3) rfl ?_
              refine zp_iret (pc := 100) (n := (ix : Int)) hx hb hE hQ hU5 rfl (by decide) (zd_X7_wordIn (100, .ireturn, 1, 0, []) (List.mem_of_getElem? (i := 55) rfl)) (j := 0) rfl (zp_o0 (by omega) (by omega) (by omega) (by omega)) ?_
              rw [hps]
              refine ⟨rfl, rfl, ?_⟩
              rw [← hso, if_pos hs1, ← hf, ← hq, ← hm, hg, zs_g_step hk, if_pos ⟨by omega, by rw [← hsm0]; omega⟩, ← hix0]
          · refine zp_load (pc := 55) hx hb (zd_X7_wordIn (55, .iload_n 3, 1, 0, []) (List.mem_of_getElem? (i := 29) rfl)) rfl (j := 2) rfl ?_
            refine zp_const (pc := 56) hx hb (zd_X7_wordIn (56, .iconst (-1), 1, 0, []) (List.mem_of_getElem? (i := 30) rfl)) rfl rfl ?_
            refine zp_icmp (pc := 57) (tgt := 81) hx hb (zd_X7_wordIn (57, .if_icmp .eq 24, 3, 0, []) (List.mem_of_getElem? (i := 31) rfl)) rfl (fun (hc47 : sm = (-1)) => ?_) (fun (hc47 : ¬ (sm = (-1))) => ?_)
            · refine zp_const (pc := 81) hx hb (zd_X7_wordIn (81, .iconst (-1), 1, 0, []) (List.mem_of_getElem? (i := 44) rfl)) rfl rfl ?_
              refine zp_store (L' := [(3, 0, (-1)), (5, 0, rnc44), (4, 0, (k : Int)), (2, 0, (ix : Int)), (0, 2, (a : Int)), (1, 2, (sx : Int))]) (pc := 82) hx hb hnL (zd_X7_wordIn (82, .istore_n 3, 1, 0, []) (List.mem_of_getElem? (i := 45) rfl)) rfl rfl rfl ?_
              refine zp_goto (tgt := 106) (pc := 83) hx hb (zd_X7_wordIn (83, .goto 23, 3, 0, []) (List.mem_of_getElem? (i := 46) rfl)) rfl ?_
              refine zp_iinc (L' := [(4, 0, ((k : Int) + 1)), (3, 0, (-1)), (5, 0, rnc44), (2, 0, (ix : Int)), (0, 2, (a : Int)), (1, 2, (sx : Int))]) (n := ((k : Int) + 1)) (pc := 106) hx hb hnL (zd_X7_wordIn (106, .iinc 4 1, 3, 0, []) (List.mem_of_getElem? (i := 59) rfl)) (j := 2) rfl (by omega) (zp_r0 (by omega) (by omega)) rfl rfl ?_
              refine zp_goto (tgt := 17) (pc := 109) hx hb (zd_X7_wordIn (109, .goto (-92), 3, 0, []) (List.mem_of_getElem? (i := 60) rfl)) rfl ?_
              refine zp_drop (L' := [(4, 0, ((k + 1 : Nat) : Int)), (3, 0, (-1)), (2, 0, (ix : Int)), (0, 2, (a : Int)), (1, 2, (sx : Int))]) (by simp <;> omega) ?_
              have ih9 := ih (k + 1) (by omega) (by omega) (go (fun z => by omega))
              rw [e1, e2] at ih9
              rw [if_neg (by omega), if_neg (by omega), if_neg (by omega)] at ih9
              exact ih9
            · refine zp_load (pc := 60) hx hb (zd_X7_wordIn (60, .aload_n 0, 1, 0, []) (List.mem_of_getElem? (i := 32) rfl)) rfl (j := 4) rfl ?_
              refine zp_load (pc := 61) hx hb (zd_X7_wordIn (61, .aload_n 0, 1, 0, []) (List.mem_of_getElem? (i := 33) rfl)) rfl (j := 4) rfl ?_
              refine zp_getf (n := (f : Int)) (pc := 62) hx hb hE hw (zd_X7_wordIn (62, .getfield 29, 3, 0, []) (List.mem_of_getElem? (i := 34) rfl)) (j := 4) rfl rfl rfl hp c3 ?_
              refine zp_load (pc := 65) hx hb (zd_X7_wordIn (65, .iload_n 3, 1, 0, []) (List.mem_of_getElem? (i := 35) rfl)) rfl (j := 2) rfl ?_
              refine zp_add (n := ((f : Int) + sm)) (pc := 66) hx hb (zd_X7_wordIn (66, .iadd, 1, 0, []) (List.mem_of_getElem? (i := 36) rfl)) (by omega) (zp_r0 (by omega) (by omega)) ?_
              refine zp_call (pc := 67) (how := 0) (idx := 25) (mi := 37) (S := []) hx hb hE hw heff hrm (zX_bya hW) rfl (j := 1) rfl rfl (by decide +kernel) (zd_X7_wordIn (67, .invokevirtual 25, 3, 0, []) (List.mem_of_getElem? (i := 37) rfl)) [(a : Int), ((f : Int) + sm)] rfl ⟨zp_o2 hp, zp_o0 (by omega) (by omega) (by omega) (by omega), trivial⟩ (Nat.le_of_ble_eq_true rfl) trivial (fun al hal rnb48 Pb48 Gb48 hextb48 hfrb48 hokb48 hcsb48 hpsib48 => ?_)
              obtain rfl := List.mem_singleton.mp hal
              have hrb48 := zp_int (hokb48 _ rfl).1
              obtain ⟨hPeb48, hGeb48, htb48⟩ := hpsib48
              rw [hPeb48, hGeb48]
              have hvb48 : rnb48 = zBc B ln (f + sm.toNat) := by
                have h9 := htb48 (f + sm.toNat) (show ((f : Int) + sm) = ((f + sm.toNat : Nat) : Int) by omega)
                unfold zBc
                by_cases z : f + sm.toNat < ln
                · rw [if_pos z]
                  refine (h9.1 (show ((f + sm.toNat : Nat) : Int) < zp_n u.2.1 a 1 by rw [t1]; omega)).trans ?_
                  show zp_n u.2.1 (zp_n u.2.1 a 0).toNat (2000 + (f + sm.toNat)) = _
                  rw [t0, Int.toNat_natCast]
                  exact t3 _
                · rw [if_neg z]
                  exact h9.2 (show ¬ ((f + sm.toNat : Nat) : Int) < zp_n u.2.1 a 1 by rw [t1]; omega)
              refine zp_load (pc := 70) hx hb (zd_X7_wordIn (70, .iload 5, 2, 0, []) (List.mem_of_getElem? (i := 38) rfl)) rfl (j := 0) rfl ?_
              refine zp_icmp (pc := 72) (tgt := 81) hx hb (zd_X7_wordIn (72, .if_icmp .ne 9, 3, 0, []) (List.mem_of_getElem? (i := 39) rfl)) rfl (fun (hc49 : ¬ rnb48 = rnc44) => ?_) (fun (hc49 : ¬ (¬ rnb48 = rnc44)) => ?_)
              · refine zp_const (pc := 81) hx hb (zd_X7_wordIn (81, .iconst (-1), 1, 0, []) (List.mem_of_getElem? (i := 44) rfl)) rfl rfl ?_
                refine zp_store (L' := [(3, 0, (-1)), (5, 0, rnc44), (4, 0, (k : Int)), (2, 0, (ix : Int)), (0, 2, (a : Int)), (1, 2, (sx : Int))]) (pc := 82) hx hb hnL (zd_X7_wordIn (82, .istore_n 3, 1, 0, []) (List.mem_of_getElem? (i := 45) rfl)) rfl rfl rfl ?_
                refine zp_goto (tgt := 106) (pc := 83) hx hb (zd_X7_wordIn (83, .goto 23, 3, 0, []) (List.mem_of_getElem? (i := 46) rfl)) rfl ?_
                refine zp_iinc (L' := [(4, 0, ((k : Int) + 1)), (3, 0, (-1)), (5, 0, rnc44), (2, 0, (ix : Int)), (0, 2, (a : Int)), (1, 2, (sx : Int))]) (n := ((k : Int) + 1)) (pc := 106) hx hb hnL (zd_X7_wordIn (106, .iinc 4 1, 3, 0, []) (List.mem_of_getElem? (i := 59) rfl)) (j := 2) rfl (by omega) (zp_r0 (by omega) (by omega)) rfl rfl ?_
                refine zp_goto (tgt := 17) (pc := 109) hx hb (zd_X7_wordIn (109, .goto (-92), 3, 0, []) (List.mem_of_getElem? (i := 60) rfl)) rfl ?_
                refine zp_drop (L' := [(4, 0, ((k + 1 : Nat) : Int)), (3, 0, (-1)), (2, 0, (ix : Int)), (0, 2, (a : Int)), (1, 2, (sx : Int))]) (by simp <;> omega) ?_
                have ih9 := ih (k + 1) (by omega) (by omega) (go (fun z => by omega))
                rw [e1, e2] at ih9
                rw [if_neg (by omega), if_neg (by omega), if_neg (by omega)] at ih9
                exact ih9
              · refine zp_load (pc := 75) hx hb (zd_X7_wordIn (75, .iload_n 3, 1, 0, []) (List.mem_of_getElem? (i := 40) rfl)) rfl (j := 2) rfl ?_
                refine zp_const (pc := 76) hx hb (zd_X7_wordIn (76, .iconst 1, 1, 0, []) (List.mem_of_getElem? (i := 41) rfl)) rfl rfl ?_
                refine zp_add (n := (sm + 1)) (pc := 77) hx hb (zd_X7_wordIn (77, .iadd, 1, 0, []) (List.mem_of_getElem? (i := 42) rfl)) (by omega) (zp_r0 (by omega) (by omega)) ?_
                refine zp_goto (tgt := 82) (pc := 78) hx hb (zd_X7_wordIn (78, .goto 4, 3, 0, []) (List.mem_of_getElem? (i := 43) rfl)) rfl ?_
                refine zp_store (L' := [(3, 0, (sm + 1)), (5, 0, rnc44), (4, 0, (k : Int)), (2, 0, (ix : Int)), (0, 2, (a : Int)), (1, 2, (sx : Int))]) (pc := 82) hx hb hnL (zd_X7_wordIn (82, .istore_n 3, 1, 0, []) (List.mem_of_getElem? (i := 45) rfl)) rfl rfl rfl ?_
                refine zp_goto (tgt := 106) (pc := 83) hx hb (zd_X7_wordIn (83, .goto 23, 3, 0, []) (List.mem_of_getElem? (i := 46) rfl)) rfl ?_
                refine zp_iinc (L' := [(4, 0, ((k : Int) + 1)), (3, 0, (sm + 1)), (5, 0, rnc44), (2, 0, (ix : Int)), (0, 2, (a : Int)), (1, 2, (sx : Int))]) (n := ((k : Int) + 1)) (pc := 106) hx hb hnL (zd_X7_wordIn (106, .iinc 4 1, 3, 0, []) (List.mem_of_getElem? (i := 59) rfl)) (j := 2) rfl (by omega) (zp_r0 (by omega) (by omega)) rfl rfl ?_
                refine zp_goto (tgt := 17) (pc := 109) hx hb (zd_X7_wordIn (109, .goto (-92), 3, 0, []) (List.mem_of_getElem? (i := 60) rfl)) rfl ?_
                refine zp_drop (L' := [(4, 0, ((k + 1 : Nat) : Int)), (3, 0, (sm + 1)), (2, 0, (ix : Int)), (0, 2, (a : Int)), (1, 2, (sx : Int))]) (by simp <;> omega) ?_
                have ih9 := ih (k + 1) (by omega) (by omega) (go (fun z => by omega))
                rw [e1, e2] at ih9
                rw [if_neg (by omega), if_pos ⟨by omega, by omega⟩, if_neg (by omega)] at ih9
                exact ih9
  refine zp_load (pc := 0) hx hb (zd_X7_wordIn (0, .aload_n 0, 1, 0, []) (List.mem_of_getElem? (i := 0) rfl)) rfl (j := 0) rfl ?_
  refine zp_getf (n := (so : Int)) (pc := 1) hx hb hE hw (zd_X7_wordIn (1, .getfield 35, 3, 0, []) (List.mem_of_getElem? (i := 1) rfl)) (j := 3) rfl rfl rfl hp c2 ?_
  refine zp_const (pc := 4) hx hb (zd_X7_wordIn (4, .iconst 1, 1, 0, []) (List.mem_of_getElem? (i := 2) rfl)) rfl rfl ?_
  refine zp_icmp (pc := 5) (tgt := 10) hx hb (zd_X7_wordIn (5, .if_icmp .eq 5, 3, 0, []) (List.mem_of_getElem? (i := 3) rfl)) rfl (fun (hc50 : (so : Int) = 1) => ?_) (fun (hc50 : ¬ ((so : Int) = 1)) => ?_)
  · refine zp_const (pc := 10) hx hb (zd_X7_wordIn (10, .iconst 0, 1, 0, []) (List.mem_of_getElem? (i := 6) rfl)) rfl rfl ?_
    refine zp_store (L' := [(2, 0, 0), (0, 2, (a : Int)), (1, 2, (sx : Int))]) (pc := 11) hx hb hnL (zd_X7_wordIn (11, .istore_n 2, 1, 0, []) (List.mem_of_getElem? (i := 7) rfl)) rfl rfl rfl ?_
    refine zp_const (pc := 12) hx hb (zd_X7_wordIn (12, .iconst 0, 1, 0, []) (List.mem_of_getElem? (i := 8) rfl)) rfl rfl ?_
    refine zp_store (L' := [(3, 0, 0), (2, 0, 0), (0, 2, (a : Int)), (1, 2, (sx : Int))]) (pc := 13) hx hb hnL (zd_X7_wordIn (13, .istore_n 3, 1, 0, []) (List.mem_of_getElem? (i := 9) rfl)) rfl rfl rfl ?_
    refine zp_const (pc := 14) hx hb (zd_X7_wordIn (14, .iconst 0, 1, 0, []) (List.mem_of_getElem? (i := 10) rfl)) rfl rfl ?_
    refine zp_store (L' := [(4, 0, 0), (3, 0, 0), (2, 0, 0), (0, 2, (a : Int)), (1, 2, (sx : Int))]) (pc := 15) hx hb hnL (zd_X7_wordIn (15, .istore 4, 2, 0, []) (List.mem_of_getElem? (i := 11) rfl)) rfl rfl rfl ?_
    have h9 := loop (by omega) 50 0 (by omega) (by omega) rfl
    exact h9
  · refine zp_const (pc := 8) hx hb (zd_X7_wordIn (8, .iconst (-1), 1, 0, []) (List.mem_of_getElem? (i := 4) rfl)) rfl rfl ?_
    refine zp_iret (pc := 9) (n := (-1)) hx hb hE hQ hU5 rfl (by decide) (zd_X7_wordIn (9, .ireturn, 1, 0, []) (List.mem_of_getElem? (i := 5) rfl)) (j := 0) rfl (zp_o0 (by omega) (by omega) (by omega) (by omega)) ?_
    rw [hps]
    refine ⟨rfl, rfl, ?_⟩
    rw [← hso, if_neg (by omega)]
noncomputable def zK_vwoc : zk_K := (zt_mn 46, prog_9_method_10_code, 6, (Option.some Jvm.ClassFile.FieldType.int), 1, 7, [(2, 7, 0, 0), (2, 200, 0, 0)], [(some (0, 0, (-1), 400), [])], [], (9, 221, 0, 0))
noncomputable def zφ_vwoc (b : Nat) (B : Nat → Int) (ln tk : Nat) : (Nat → Option Nat) → (Nat → Nat → Int) → List Int → Prop := fun P G ps => zTt (zp_0 ps) b G B ln tk
noncomputable def zψ_vwoc (b : Nat) (B : Nat → Int) (ln tk : Nat) : (Nat → Option Nat) → (Nat → Nat → Int) → List Int → (Nat → Option Nat) → (Nat → Nat → Int) → Int → Prop := fun P G ps P' G' rn => P' = P ∧ G' = G ∧ rn = if zy_so B ln tk = 1 then zs_g za_oc 17 (zBc B ln) (zy_fr B ln tk) ((zy_to B ln tk - zy_fr B ln tk : Nat) : Int) 0 else -1
theorem zX_vwoc {l : Launch} {w : zk_W} (hW : zh_W w) (b : Nat) (B : Nat → Int) (ln tk : Nat) : zk_metX l w zt_dv zt_TB zK_vwoc (zp_A (zφ_vwoc b B ln tk)) (zp_B (zψ_vwoc b B ln tk)) ∧ zk_cok w zt_TB zK_vwoc := by
  refine zp_methX (cn := "WoundTown$Tape") zp_lkallT9 hW (pl := 733) rfl (by decide +kernel) (fun p e R s m args below meth c Q u hx hb hE hQ hU5 heff hnL hok hφ => ?_)
  have hw := hW.1
  obtain ⟨p0, p1, hps, k0, k1⟩ := zp_ps2 hok
  obtain ⟨a, rfl, hp⟩ := zp_this k0
  have hrm : zk_Kr (zk_ev (zt_types, zp_lkT9, zt_dv, [], [], zp_lcT9, zK_vwoc)) = zk_Kr zK_vwoc := rfl
  rw [hps] at hφ ⊢
  show zp_J p l e R s m args below meth c Q w u [] 0 [(0, 2, (a : Int)), (1, 2, p1)] [] u.1 (zp_n u.2.1)
  obtain ⟨sx, rfl, qs⟩ := zp_this k1
  have hT : zTt a b (zp_n u.2.1) B ln tk := hφ
  have hlen := zTt_len hT
  obtain ⟨⟨t0, t1, t2, t3⟩, t5, t6, c2, c3, c4, c5⟩ := hT
  obtain ⟨so, hso⟩ : ∃ x : Nat, x = zy_so B ln tk := ⟨_, rfl⟩
  obtain ⟨f, hf⟩ : ∃ x : Nat, x = zy_fr B ln tk := ⟨_, rfl⟩
  obtain ⟨q, hq⟩ : ∃ x : Nat, x = zy_to B ln tk := ⟨_, rfl⟩
  rw [← hso] at c2
  rw [← hf] at c3 hlen
  rw [← hq] at c4 hlen
  obtain ⟨m9, hm⟩ : ∃ x : Nat, x = q - f := ⟨_, rfl⟩
  have hby : ∀ j, zt_by 0 j = za_oc j := fun j => rfl
  have tail : so = 1 → zs_g za_oc 17 (zBc B ln) f (m9 : Int) 0 = -1 → ∀ (sm ix : Int), zp_J p l e R s m args below meth c Q w u [] 17 [(4, 0, 18), (3, 0, sm), (2, 0, ix), (0, 2, (a : Int)), (1, 2, (sx : Int))] [] u.1 (zp_n u.2.1) := by
    intro hs1 hg sm ix
    refine zp_load (pc := 17) hx hb (zd_X7_wordIn (17, .iload 4, 2, 0, []) (List.mem_of_getElem? (i := 12) rfl)) rfl (j := 0) rfl ?_
    refine zp_load (pc := 19) hx hb (zd_X7_wordIn (19, .aload_n 1, 1, 0, []) (List.mem_of_getElem? (i := 13) rfl)) rfl (j := 4) rfl ?_
    refine zp_callS (pc := 20) (how := 0) (idx := 45) (mi := 47) (S := [(0, 18)]) hx hb hE hw heff hrm (zY_len hW (t := 200) (n := 17) (by decide) rfl (by decide)) rfl (j := 3) rfl rfl (by decide +kernel) (zd_X7_wordIn (20, .invokevirtual 45, 3, 0, []) (List.mem_of_getElem? (i := 14) rfl)) [(sx : Int)] rfl ⟨zp_o2 qs, trivial⟩ (Nat.le_of_ble_eq_true rfl) trivial (fun al hal rnl51 Pl51 Gl51 hextl51 hfrl51 hokl51 hcsl51 hpsil51 => ?_)
    obtain rfl := List.mem_singleton.mp hal
    have hrl51 := zp_int (hokl51 _ rfl).1
    obtain ⟨hPel51, hGel51, htl51⟩ := hpsil51
    rw [hPel51, hGel51]
    obtain rfl : rnl51 = 17 := htl51
    refine zp_icmp (pc := 23) (tgt := 112) hx hb (zd_X7_wordIn (23, .if_icmp .gt 89, 3, 0, []) (List.mem_of_getElem? (i := 15) rfl)) rfl (fun (hc52 : 17 < 18) => ?_) (fun (hc52 : ¬ (17 < 18)) => ?_)
    · refine zp_const (pc := 112) hx hb (zd_X7_wordIn (112, .iconst (-1), 1, 0, []) (List.mem_of_getElem? (i := 61) rfl)) rfl rfl ?_
      refine zp_iret (pc := 113) (n := (-1)) hx hb hE hQ hU5 rfl (by decide) (zd_X7_wordIn (113, .ireturn, 1, 0, []) (List.mem_of_getElem? (i := 62) rfl)) (j := 0) rfl (zp_o0 (by omega) (by omega) (by omega) (by omega)) ?_
      rw [hps]
      refine ⟨rfl, rfl, ?_⟩
      rw [← hso, if_pos hs1, ← hf, ← hq, ← hm]
      exact hg.symm
    · exfalso
      omega
  have loop : so = 1 → ∀ (n9 k : Nat), 18 - k < n9 → k ≤ 17 → zs_g za_oc 17 (zBc B ln) f (m9 : Int) 0 = zs_g za_oc 17 (zBc B ln) f (m9 : Int) k → zp_J p l e R s m args below meth c Q w u [] 17 [(4, 0, (k : Int)), (3, 0, (zs_sm za_oc (zBc B ln) f k)), (2, 0, ((zs_ix za_oc k : Nat) : Int)), (0, 2, (a : Int)), (1, 2, (sx : Int))] [] u.1 (zp_n u.2.1) := by
    intro hs1 n9
    induction n9 with
    | zero => intro k h; exact absurd h (Nat.not_lt_zero _)
    | succ n9 ih =>
      intro k hn hk hg
      have hsm := zs_sm_le (S := za_oc) (B := zBc B ln) (st := f) k
      have hix := zs_ix_le (S := za_oc) k
      obtain ⟨sm, hsm0⟩ : ∃ x : Int, x = zs_sm za_oc (zBc B ln) f k := ⟨_, rfl⟩
      obtain ⟨ix, hix0⟩ : ∃ x : Nat, x = zs_ix za_oc k := ⟨_, rfl⟩
      rw [← hsm0, ← hix0]
      rw [← hsm0] at hsm
      rw [← hix0] at hix
      have e1 : zs_sm za_oc (zBc B ln) f (k + 1) = if za_oc k = 32 then 0 else if sm ≠ -1 ∧ zBc B ln (f + sm.toNat) = za_oc k then sm + 1 else -1 := by
        rw [hsm0]
        rfl
      have e2 : zs_ix za_oc (k + 1) = if za_oc k = 32 then ix + 1 else ix := by
        rw [hix0]
        rfl
      have go : ¬ ((k = 17 ∨ za_oc k = 32) ∧ sm = (m9 : Int)) → zs_g za_oc 17 (zBc B ln) f (m9 : Int) 0 = zs_g za_oc 17 (zBc B ln) f (m9 : Int) (k + 1) := fun z => by
        rw [hg, zs_g_step hk, if_neg (by rw [← hsm0]; exact z)]
      refine zp_load (pc := 17) hx hb (zd_X7_wordIn (17, .iload 4, 2, 0, []) (List.mem_of_getElem? (i := 12) rfl)) rfl (j := 0) rfl ?_
      refine zp_load (pc := 19) hx hb (zd_X7_wordIn (19, .aload_n 1, 1, 0, []) (List.mem_of_getElem? (i := 13) rfl)) rfl (j := 4) rfl ?_
      refine zp_callS (pc := 20) (how := 0) (idx := 45) (mi := 47) (S := [(0, (k : Int))]) hx hb hE hw heff hrm (zY_len hW (t := 200) (n := 17) (by decide) rfl (by decide)) rfl (j := 3) rfl rfl (by decide +kernel) (zd_X7_wordIn (20, .invokevirtual 45, 3, 0, []) (List.mem_of_getElem? (i := 14) rfl)) [(sx : Int)] rfl ⟨zp_o2 qs, trivial⟩ (Nat.le_of_ble_eq_true rfl) trivial (fun al hal rnl53 Pl53 Gl53 hextl53 hfrl53 hokl53 hcsl53 hpsil53 => ?_)
      obtain rfl := List.mem_singleton.mp hal
      have hrl53 := zp_int (hokl53 _ rfl).1
      obtain ⟨hPel53, hGel53, htl53⟩ := hpsil53
      rw [hPel53, hGel53]
      obtain rfl : rnl53 = 17 := htl53
      refine zp_icmp (pc := 23) (tgt := 112) hx hb (zd_X7_wordIn (23, .if_icmp .gt 89, 3, 0, []) (List.mem_of_getElem? (i := 15) rfl)) rfl (fun (hc54 : 17 < (k : Int)) => ?_) (fun (hc54 : ¬ (17 < (k : Int))) => ?_)
      · refine zp_const (pc := 112) hx hb (zd_X7_wordIn (112, .iconst (-1), 1, 0, []) (List.mem_of_getElem? (i := 61) rfl)) rfl rfl ?_
        exfalso
        omega
      · refine zp_load (pc := 26) hx hb (zd_X7_wordIn (26, .iload 4, 2, 0, []) (List.mem_of_getElem? (i := 16) rfl)) rfl (j := 0) rfl ?_
        refine zp_load (pc := 28) hx hb (zd_X7_wordIn (28, .aload_n 1, 1, 0, []) (List.mem_of_getElem? (i := 17) rfl)) rfl (j := 4) rfl ?_
        refine zp_callS (pc := 29) (how := 0) (idx := 45) (mi := 47) (S := [(0, (k : Int))]) hx hb hE hw heff hrm (zY_len hW (t := 200) (n := 17) (by decide) rfl (by decide)) rfl (j := 3) rfl rfl (by decide +kernel) (zd_X7_wordIn (29, .invokevirtual 45, 3, 0, []) (List.mem_of_getElem? (i := 18) rfl)) [(sx : Int)] rfl ⟨zp_o2 qs, trivial⟩ (Nat.le_of_ble_eq_true rfl) trivial (fun al hal rnl55 Pl55 Gl55 hextl55 hfrl55 hokl55 hcsl55 hpsil55 => ?_)
        obtain rfl := List.mem_singleton.mp hal
        have hrl55 := zp_int (hokl55 _ rfl).1
        obtain ⟨hPel55, hGel55, htl55⟩ := hpsil55
        rw [hPel55, hGel55]
        obtain rfl : rnl55 = 17 := htl55
        refine zp_icmp (pc := 32) (tgt := 44) hx hb (zd_X7_wordIn (32, .if_icmp .ge 12, 3, 0, []) (List.mem_of_getElem? (i := 19) rfl)) rfl (fun (hc56 : 17 ≤ (k : Int)) => ?_) (fun (hc56 : ¬ (17 ≤ (k : Int))) => ?_)
        · refine zp_const (pc := 44) hx hb (zd_X7_wordIn (44, .bipush 32, 2, 0, []) (List.mem_of_getElem? (i := 24) rfl)) rfl rfl ?_
          refine zp_store (L' := [(5, 0, 32), (4, 0, (k : Int)), (3, 0, sm), (2, 0, (ix : Int)), (0, 2, (a : Int)), (1, 2, (sx : Int))]) (pc := 46) hx hb hnL (zd_X7_wordIn (46, .istore 5, 2, 0, []) (List.mem_of_getElem? (i := 25) rfl)) rfl rfl rfl ?_
          refine zp_load (pc := 48) hx hb (zd_X7_wordIn (48, .iload 5, 2, 0, []) (List.mem_of_getElem? (i := 26) rfl)) rfl (j := 0) rfl ?_
          refine zp_const (pc := 50) hx hb (zd_X7_wordIn (50, .bipush 32, 2, 0, []) (List.mem_of_getElem? (i := 27) rfl)) rfl rfl ?_
          refine zp_icmp (pc := 52) (tgt := 86) hx hb (zd_X7_wordIn (52, .if_icmp .eq 34, 3, 0, []) (List.mem_of_getElem? (i := 28) rfl)) rfl (fun (hc57 : 32 = 32) => ?_) (fun (hc57 : ¬ (32 = 32)) => ?_)
          · refine zp_load (pc := 86) hx hb (zd_X7_wordIn (86, .iload_n 3, 1, 0, []) (List.mem_of_getElem? (i := 47) rfl)) rfl (j := 2) rfl ?_
            refine zp_load (pc := 87) hx hb (zd_X7_wordIn (87, .aload_n 0, 1, 0, []) (List.mem_of_getElem? (i := 48) rfl)) rfl (j := 4) rfl ?_
            refine zp_getf (n := (q : Int)) (pc := 88) hx hb hE hw (zd_X7_wordIn (88, .getfield 19, 3, 0, []) (List.mem_of_getElem? (i := 49) rfl)) (j := 5) rfl rfl rfl hp c4 ?_
            refine zp_load (pc := 91) hx hb (zd_X7_wordIn (91, .aload_n 0, 1, 0, []) (List.mem_of_getElem? (i := 50) rfl)) rfl (j := 4) rfl ?_
            refine zp_getf (n := (f : Int)) (pc := 92) hx hb hE hw (zd_X7_wordIn (92, .getfield 29, 3, 0, []) (List.mem_of_getElem? (i := 51) rfl)) (j := 4) rfl rfl rfl hp c3 ?_
            refine zp_sub (n := ((q : Int) + (-1) * (f : Int))) (pc := 95) hx hb (zd_X7_wordIn (95, .isub, 1, 0, []) (List.mem_of_getElem? (i := 52) rfl)) (by omega) (zp_r0 (by omega) (by omega)) ?_
            refine zp_icmp (pc := 96) (tgt := 101) hx hb (zd_X7_wordIn (96, .if_icmp .ne 5, 3, 0, []) (List.mem_of_getElem? (i := 53) rfl)) rfl (fun (hc58 : ¬ sm = ((q : Int) + (-1) * (f : Int))) => ?_) (fun (hc58 : ¬ (¬ sm = ((q : Int) + (-1) * (f : Int)))) => ?_)
            · refine zp_iinc (L' := [(2, 0, ((ix : Int) + 1)), (5, 0, 32), (4, 0, (k : Int)), (3, 0, sm), (0, 2, (a : Int)), (1, 2, (sx : Int))]) (n := ((ix : Int) + 1)) (pc := 101) hx hb hnL (zd_X7_wordIn (101, .iinc 2 1, 3, 0, []) (List.mem_of_getElem? (i := 56) rfl)) (j := 3) rfl (by omega) (zp_r0 (by omega) (by omega)) rfl rfl ?_
              refine zp_const (pc := 104) hx hb (zd_X7_wordIn (104, .iconst 0, 1, 0, []) (List.mem_of_getElem? (i := 57) rfl)) rfl rfl ?_
              refine zp_store (L' := [(3, 0, 0), (2, 0, ((ix : Int) + 1)), (5, 0, 32), (4, 0, (k : Int)), (0, 2, (a : Int)), (1, 2, (sx : Int))]) (pc := 105) hx hb hnL (zd_X7_wordIn (105, .istore_n 3, 1, 0, []) (List.mem_of_getElem? (i := 58) rfl)) rfl rfl rfl ?_
              refine zp_iinc (L' := [(4, 0, ((k : Int) + 1)), (3, 0, 0), (2, 0, ((ix : Int) + 1)), (5, 0, 32), (0, 2, (a : Int)), (1, 2, (sx : Int))]) (n := ((k : Int) + 1)) (pc := 106) hx hb hnL (zd_X7_wordIn (106, .iinc 4 1, 3, 0, []) (List.mem_of_getElem? (i := 59) rfl)) (j := 3) rfl (by omega) (zp_r0 (by omega) (by omega)) rfl rfl ?_
              refine zp_goto (tgt := 17) (pc := 109) hx hb (zd_X7_wordIn (109, .goto (-92), 3, 0, []) (List.mem_of_getElem? (i := 60) rfl)) rfl ?_
              refine zp_drop (L' := [(4, 0, 18), (3, 0, 0), (2, 0, ((ix : Int) + 1)), (0, 2, (a : Int)), (1, 2, (sx : Int))]) (by simp <;> omega) ?_
              have hkn : k = 17 := by omega
              exact tail hs1 ((go (fun z => by omega)).trans (zs_g_end (by omega))) _ _
            · refine zp_load (pc := 99) hx hb (zd_X7_wordIn (99, .iload_n 2, 1, 0, []) (List.mem_of_getElem? (i := 54) rfl)) rfl (j := 3) rfl ?_
              refine zp_iret (pc := 100) (n := (ix : Int)) hx hb hE hQ hU5 rfl (by decide) (zd_X7_wordIn (100, .ireturn, 1, 0, []) (List.mem_of_getElem? (i := 55) rfl)) (j := 0) rfl (zp_o0 (by omega) (by omega) (by omega) (by omega)) ?_
              rw [hps]
              refine ⟨rfl, rfl, ?_⟩
              rw [← hso, if_pos hs1, ← hf, ← hq, ← hm, hg, zs_g_step hk, if_pos ⟨by omega, by rw [← hsm0]; omega⟩, ← hix0]
          · exfalso
            omega
        · refine zp_load (pc := 35) hx hb (zd_X7_wordIn (35, .aload_n 1, 1, 0, []) (List.mem_of_getElem? (i := 20) rfl)) rfl (j := 4) rfl ?_
          refine zp_load (pc := 36) hx hb (zd_X7_wordIn (36, .iload 4, 2, 0, []) (List.mem_of_getElem? (i := 21) rfl)) rfl (j := 0) rfl ?_
          refine zp_callS (pc := 38) (how := 0) (idx := 50) (mi := 49) (S := []) hx hb hE hw heff hrm (zY_chr hW (t := 200) (n := 17) (by decide) rfl (by decide)) rfl (j := 4) rfl rfl (by decide +kernel) (zd_X7_wordIn (38, .invokevirtual 50, 3, 0, []) (List.mem_of_getElem? (i := 22) rfl)) [(sx : Int), (k : Int)] rfl ⟨zp_o2 qs, zp_o0 (by omega) (by omega) (by omega) (by omega), trivial⟩ (Nat.le_of_ble_eq_true rfl) trivial (fun al hal rnc59 Pc59 Gc59 hextc59 hfrc59 hokc59 hcsc59 hpsic59 => ?_)
          obtain rfl := List.mem_singleton.mp hal
          have hrc59 := zp_int (hokc59 _ rfl).1
          obtain ⟨hPec59, hGec59, htc59⟩ := hpsic59
          rw [hPec59, hGec59]
          have hcc59 : rnc59 = za_oc k := by
            refine htc59.trans ?_
            show zt_by (200 - 200) ((k : Int)).toNat = _
            rw [Int.toNat_natCast]
            exact hby k
          refine zp_goto (tgt := 46) (pc := 41) hx hb (zd_X7_wordIn (41, .goto 5, 3, 0, []) (List.mem_of_getElem? (i := 23) rfl)) rfl ?_
          refine zp_store (L' := [(5, 0, rnc59), (4, 0, (k : Int)), (3, 0, sm), (2, 0, (ix : Int)), (0, 2, (a : Int)), (1, 2, (sx : Int))]) (pc := 46) hx hb hnL (zd_X7_wordIn (46, .istore 5, 2, 0, []) (List.mem_of_getElem? (i := 25) rfl)) rfl rfl rfl ?_
          refine zp_load (pc := 48) hx hb (zd_X7_wordIn (48, .iload 5, 2, 0, []) (List.mem_of_getElem? (i := 26) rfl)) rfl (j := 0) rfl ?_
          refine zp_const (pc := 50) hx hb (zd_X7_wordIn (50, .bipush 32, 2, 0, []) (List.mem_of_getElem? (i := 27) rfl)) rfl rfl ?_
          refine zp_icmp (pc := 52) (tgt := 86) hx hb (zd_X7_wordIn (52, .if_icmp .eq 34, 3, 0, []) (List.mem_of_getElem? (i := 28) rfl)) rfl (fun (hc60 : rnc59 = 32) => ?_) (fun (hc60 : ¬ (rnc59 = 32)) => ?_)
          · refine zp_load (pc := 86) hx hb (zd_X7_wordIn (86, .iload_n 3, 1, 0, []) (List.mem_of_getElem? (i := 47) rfl)) rfl (j := 2) rfl ?_
            refine zp_load (pc := 87) hx hb (zd_X7_wordIn (87, .aload_n 0, 1, 0, []) (List.mem_of_getElem? (i := 48) rfl)) rfl (j := 4) rfl ?_
            refine zp_getf (n := (q : Int)) (pc := 88) hx hb hE hw (zd_X7_wordIn (88, .getfield 19, 3, 0, []) (List.mem_of_getElem? (i := 49) rfl)) (j := 5) rfl rfl rfl hp c4 ?_
            refine zp_load (pc := 91) hx hb (zd_X7_wordIn (91, .aload_n 0, 1, 0, []) (List.mem_of_getElem? (i := 50) rfl)) rfl (j := 4) rfl ?_
            refine zp_getf (n := (f : Int)) (pc := 92) hx hb hE hw (zd_X7_wordIn (92, .getfield 29, 3, 0, []) (List.mem_of_getElem? (i := 51) rfl)) (j := 4) rfl rfl rfl hp c3 ?_
            refine zp_sub (n := ((q : Int) + (-1) * (f : Int))) (pc := 95) hx hb (zd_X7_wordIn (95, .isub, 1, 0, []) (List.mem_of_getElem? (i := 52) rfl)) (by omega) (zp_r0 (by omega) (by omega)) ?_
            refine zp_icmp (pc := 96) (tgt := 101) hx hb (zd_X7_wordIn (96, .if_icmp .ne 5, 3, 0, []) (List.mem_of_getElem? (i := 53) rfl)) rfl (fun (hc61 : ¬ sm = ((q : Int) + (-1) * (f : Int))) => ?_) (fun (hc61 : ¬ (¬ sm = ((q : Int) + (-1) * (f : Int)))) => ?_)
            · refine zp_iinc (L' := [(2, 0, ((ix : Int) + 1)), (5, 0, rnc59), (4, 0, (k : Int)), (3, 0, sm), (0, 2, (a : Int)), (1, 2, (sx : Int))]) (n := ((ix : Int) + 1)) (pc := 101) hx hb hnL (zd_X7_wordIn (101, .iinc 2 1, 3, 0, []) (List.mem_of_getElem? (i := 56) rfl)) (j := 3) rfl (by omega) (zp_r0 (by omega) (by omega)) rfl rfl ?_
              refine zp_const (pc := 104) hx hb (zd_X7_wordIn (104, .iconst 0, 1, 0, []) (List.mem_of_getElem? (i := 57) rfl)) rfl rfl ?_
              refine zp_store (L' := [(3, 0, 0), (2, 0, ((ix : Int) + 1)), (5, 0, rnc59), (4, 0, (k : Int)), (0, 2, (a : Int)), (1, 2, (sx : Int))]) (pc := 105) hx hb hnL (zd_X7_wordIn (105, .istore_n 3, 1, 0, []) (List.mem_of_getElem? (i := 58) rfl)) rfl rfl rfl ?_
              refine zp_iinc (L' := [(4, 0, ((k : Int) + 1)), (3, 0, 0), (2, 0, ((ix : Int) + 1)), (5, 0, rnc59), (0, 2, (a : Int)), (1, 2, (sx : Int))]) (n := ((k : Int) + 1)) (pc := 106) hx hb hnL (zd_X7_wordIn (106, .iinc 4 1, 3, 0, []) (List.mem_of_getElem? (i := 59) rfl)) (j := 3) rfl (by omega) (zp_r0 (by omega) (by omega)) rfl rfl ?_
              refine zp_goto (tgt := 17) (pc := 109) hx hb (zd_X7_wordIn (109, .goto (-92), 3, 0, []) (List.mem_of_getElem? (i := 60) rfl)) rfl ?_
              refine zp_drop (L' := [(4, 0, ((k + 1 : Nat) : Int)), (3, 0, 0), (2, 0, ((ix + 1 : Nat) : Int)), (0, 2, (a : Int)), (1, 2, (sx : Int))]) (by simp <;> omega) ?_
              have ih9 := ih (k + 1) (by omega) (by omega) (go (fun z => by omega))
              rw [e1, e2] at ih9
              rw [if_pos (by omega), if_pos (by omega)] at ih9
              exact ih9
            · refine zp_load (pc := 99) hx hb (zd_X7_wordIn (99, .iload_n 2, 1, 0, []) (List.mem_of_getElem? (i := 54) rfl)) rfl (j := 3) rfl ?_
              refine zp_iret (pc := 100) (n := (ix : Int)) hx hb hE hQ hU5 rfl (by decide) (zd_X7_wordIn (100, .ireturn, 1, 0, []) (List.mem_of_getElem? (i := 55) rfl)) (j := 0) rfl (zp_o0 (by omega) (by omega) (by omega) (by omega)) ?_
              rw [hps]
              refine ⟨rfl, rfl, ?_⟩
              rw [← hso, if_pos hs1, ← hf, ← hq, ← hm, hg, zs_g_step hk, if_pos ⟨by omega, by rw [← hsm0]; omega⟩, ← hix0]
          · refine zp_load (pc := 55) hx hb (zd_X7_wordIn (55, .iload_n 3, 1, 0, []) (List.mem_of_getElem? (i := 29) rfl)) rfl (j := 2) rfl ?_
            refine zp_const (pc := 56) hx hb (zd_X7_wordIn (56, .iconst (-1), 1, 0, []) (List.mem_of_getElem? (i := 30) rfl)) rfl rfl ?_
            refine zp_icmp (pc := 57) (tgt := 81) hx hb (zd_X7_wordIn (57, .if_icmp .eq 24, 3, 0, []) (List.mem_of_getElem? (i := 31) rfl)) rfl (fun (hc62 : sm = (-1)) => ?_) (fun (hc62 : ¬ (sm = (-1))) => ?_)
            · refine zp_const (pc := 81) hx hb (zd_X7_wordIn (81, .iconst (-1), 1, 0, []) (List.mem_of_getElem? (i := 44) rfl)) rfl rfl ?_
              refine zp_store (L' := [(3, 0, (-1)), (5, 0, rnc59), (4, 0, (k : Int)), (2, 0, (ix : Int)), (0, 2, (a : Int)), (1, 2, (sx : Int))]) (pc := 82) hx hb hnL (zd_X7_wordIn (82, .istore_n 3, 1, 0, []) (List.mem_of_getElem? (i := 45) rfl)) rfl rfl rfl ?_
              refine zp_goto (tgt := 106) (pc := 83) hx hb (zd_X7_wordIn (83, .goto 23, 3, 0, []) (List.mem_of_getElem? (i := 46) rfl)) rfl ?_
              refine zp_iinc (L' := [(4, 0, ((k : Int) + 1)), (3, 0, (-1)), (5, 0, rnc59), (2, 0, (ix : Int)), (0, 2, (a : Int)), (1, 2, (sx : Int))]) (n := ((k : Int) + 1)) (pc := 106) hx hb hnL (zd_X7_wordIn (106, .iinc 4 1, 3, 0, []) (List.mem_of_getElem? (i := 59) rfl)) (j := 2) rfl (by omega) (zp_r0 (by omega) (by omega)) rfl rfl ?_
              refine zp_goto (tgt := 17) (pc := 109) hx hb (zd_X7_wordIn (109, .goto (-92), 3, 0, []) (List.mem_of_getElem? (i := 60) rfl)) rfl ?_
              refine zp_drop (L' := [(4, 0, ((k + 1 : Nat) : Int)), (3, 0, (-1)), (2, 0, (ix : Int)), (0, 2, (a : Int)), (1, 2, (sx : Int))]) (by simp <;> omega) ?_
              have ih9 := ih (k + 1) (by omega) (by omega) (go (fun z => by omega))
              rw [e1, e2] at ih9
              rw [if_neg (by omega), if_neg (by omega), if_neg (by omega)] at ih9
              exact ih9
            · refine zp_load (pc := 60) hx hb (zd_X7_wordIn (60, .aload_n 0, 1, 0, []) (List.mem_of_getElem? (i := 32) rfl)) rfl (j := 4) rfl ?_
              refine zp_load (pc := 61) hx hb (zd_X7_wordIn (61, .aload_n 0, 1, 0, []) (List.mem_of_getElem? (i := 33) rfl)) rfl (j := 4) rfl ?_
              refine zp_getf (n := (f : Int)) (pc := 62) hx hb hE hw (zd_X7_wordIn (62, .getfield 29, 3, 0, []) (List.mem_of_getElem? (i := 34) rfl)) (j := 4) rfl rfl rfl hp c3 ?_
              refine zp_load (pc := 65) hx hb (zd_X7_wordIn (65, .iload_n 3, 1, 0, []) (List.mem_of_getElem? (i := 35) rfl)) rfl (j := 2) rfl ?_
              refine zp_add (n := ((f : Int) + sm)) (pc := 66) hx hb (zd_X7_wordIn (66, .iadd, 1, 0, []) (List.mem_of_getElem? (i := 36) rfl)) (by omega) (zp_r0 (by omega) (by omega)) ?_
              refine zp_call (pc := 67) (how := 0) (idx := 25) (mi := 37) (S := []) hx hb hE hw heff hrm (zX_bya hW) rfl (j := 1) rfl rfl (by decide +kernel) (zd_X7_wordIn (67, .invokevirtual 25, 3, 0, []) (List.mem_of_getElem? (i := 37) rfl)) [(a : Int), ((f : Int) + sm)] rfl ⟨zp_o2 hp, zp_o0 (by omega) (by omega) (by omega) (by omega), trivial⟩ (Nat.le_of_ble_eq_true rfl) trivial (fun al hal rnb63 Pb63 Gb63 hextb63 hfrb63 hokb63 hcsb63 hpsib63 => ?_)
              obtain rfl := List.mem_singleton.mp hal
              have hrb63 := zp_int (hokb63 _ rfl).1
              obtain ⟨hPeb63, hGeb63, htb63⟩ := hpsib63
              rw [hPeb63, hGeb63]
              have hvb63 : rnb63 = zBc B ln (f + sm.toNat) := by
                have h9 := htb63 (f + sm.toNat) (show ((f : Int) + sm) = ((f + sm.toNat : Nat) : Int) by omega)
                unfold zBc
                by_cases z : f + sm.toNat < ln
                · rw [if_pos z]
                  refine (h9.1 (show ((f + sm.toNat : Nat) : Int) < zp_n u.2.1 a 1 by rw [t1]; omega)).trans ?_
                  show zp_n u.2.1 (zp_n u.2.1 a 0).toNat (2000 + (f + sm.toNat)) = _
                  rw [t0, Int.toNat_natCast]
                  exact t3 _
                · rw [if_neg z]
                  exact h9.2 (show ¬ ((f + sm.toNat : Nat) : Int) < zp_n u.2.1 a 1 by rw [t1]; omega)
              refine zp_load (pc := 70) hx hb (zd_X7_wordIn (70, .iload 5, 2, 0, []) (List.mem_of_getElem? (i := 38) rfl)) rfl (j := 0) rfl ?_
              refine zp_icmp (pc := 72) (tgt := 81) hx hb (zd_X7_wordIn (72, .if_icmp .ne 9, 3, 0, []) (List.mem_of_getElem? (i := 39) rfl)) rfl (fun (hc64 : ¬ rnb63 = rnc59) => ?_) (fun (hc64 : ¬ (¬ rnb63 = rnc59)) => ?_)
              · refine zp_const (pc := 81) hx hb (zd_X7_wordIn (81, .iconst (-1), 1, 0, []) (List.mem_of_getElem? (i := 44) rfl)) rfl rfl ?_
                refine zp_store (L' := [(3, 0, (-1)), (5, 0, rnc59), (4, 0, (k : Int)), (2, 0, (ix : Int)), (0, 2, (a : Int)), (1, 2, (sx : Int))]) (pc := 82) hx hb hnL (zd_X7_wordIn (82, .istore_n 3, 1, 0, []) (List.mem_of_getElem? (i := 45) rfl)) rfl rfl rfl ?_
                refine zp_goto (tgt := 106) (pc := 83) hx hb (zd_X7_wordIn (83, .goto 23, 3, 0, []) (List.mem_of_getElem? (i := 46) rfl)) rfl ?_
                refine zp_iinc (L' := [(4, 0, ((k : Int) + 1)), (3, 0, (-1)), (5, 0, rnc59), (2, 0, (ix : Int)), (0, 2, (a : Int)), (1, 2, (sx : Int))]) (n := ((k : Int) + 1)) (pc := 106) hx hb hnL (zd_X7_wordIn (106, .iinc 4 1, 3, 0, []) (List.mem_of_getElem? (i := 59) rfl)) (j := 2) rfl (by omega) (zp_r0 (by omega) (by omega)) rfl rfl ?_
                refine zp_goto (tgt := 17) (pc := 109) hx hb (zd_X7_wordIn (109, .goto (-92), 3, 0, []) (List.mem_of_getElem? (i := 60) rfl)) rfl ?_
                refine zp_drop (L' := [(4, 0, ((k + 1 : Nat) : Int)), (3, 0, (-1)), (2, 0, (ix : Int)), (0, 2, (a : Int)), (1, 2, (sx : Int))]) (by simp <;> omega) ?_
                have ih9 := ih (k + 1) (by omega) (by omega) (go (fun z => by omega))
                rw [e1, e2] at ih9
                rw [if_neg (by omega), if_neg (by omega), if_neg (by omega)] at ih9
                exact ih9
              · refine zp_load (pc := 75) hx hb (zd_X7_wordIn (75, .iload_n 3, 1, 0, []) (List.mem_of_getElem? (i := 40) rfl)) rfl (j := 2) rfl ?_
                refine zp_const (pc := 76) hx hb (zd_X7_wordIn (76, .iconst 1, 1, 0, []) (List.mem_of_getElem? (i := 41) rfl)) rfl rfl ?_
                refine zp_add (n := (sm + 1)) (pc := 77) hx hb (zd_X7_wordIn (77, .iadd, 1, 0, []) (List.mem_of_getElem? (i := 42) rfl)) (by omega) (zp_r0 (by omega) (by omega)) ?_
                refine zp_goto (tgt := 82) (pc := 78) hx hb (zd_X7_wordIn (78, .goto 4, 3, 0, []) (List.mem_of_getElem? (i := 43) rfl)) rfl ?_
                refine zp_store (L' := [(3, 0, (sm + 1)), (5, 0, rnc59), (4, 0, (k : Int)), (2, 0, (ix : Int)), (0, 2, (a : Int)), (1, 2, (sx : Int))]) (pc := 82) hx hb hnL (zd_X7_wordIn (82, .istore_n 3, 1, 0, []) (List.mem_of_getElem? (i := 45) rfl)) rfl rfl rfl ?_
                refine zp_goto (tgt := 106) (pc := 83) hx hb (zd_X7_wordIn (83, .goto 23, 3, 0, []) (List.mem_of_getElem? (i := 46) rfl)) rfl ?_
                refine zp_iinc (L' := [(4, 0, ((k : Int) + 1)), (3, 0, (sm + 1)), (5, 0, rnc59), (2, 0, (ix : Int)), (0, 2, (a : Int)), (1, 2, (sx : Int))]) (n := ((k : Int) + 1)) (pc := 106) hx hb hnL (zd_X7_wordIn (106, .iinc 4 1, 3, 0, []) (List.mem_of_getElem? (i := 59) rfl)) (j := 2) rfl (by omega) (zp_r0 (by omega) (by omega)) rfl rfl ?_
                refine zp_goto (tgt := 17) (pc := 109) hx hb (zd_X7_wordIn (109, .goto (-92), 3, 0, []) (List.mem_of_getElem? (i := 60) rfl)) rfl ?_
                refine zp_drop (L' := [(4, 0, ((k + 1 : Nat) : Int)), (3, 0, (sm + 1)), (2, 0, (ix : Int)), (0, 2, (a : Int)), (1, 2, (sx : Int))]) (by simp <;> omega) ?_
                have ih9 := ih (k + 1) (by omega) (by omega) (go (fun z => by omega))
                rw [e1, e2] at ih9
                rw [if_neg (by omega), if_pos ⟨by omega, by omega⟩, if_neg (by omega)] at ih9
                exact ih9
  refine zp_load (pc := 0) hx hb (zd_X7_wordIn (0, .aload_n 0, 1, 0, []) (List.mem_of_getElem? (i := 0) rfl)) rfl (j := 0) rfl ?_
  refine zp_getf (n := (so : Int)) (pc := 1) hx hb hE hw (zd_X7_wordIn (1, .getfield 35, 3, 0, []) (List.mem_of_getElem? (i := 1) rfl)) (j := 3) rfl rfl rfl hp c2 ?_
  refine zp_const (pc := 4) hx hb (zd_X7_wordIn (4, .iconst 1, 1, 0, []) (List.mem_of_getElem? (i := 2) rfl)) rfl rfl ?_
  refine zp_icmp (pc := 5) (tgt := 10) hx hb (zd_X7_wordIn (5, .if_icmp .eq 5, 3, 0, []) (List.mem_of_getElem? (i := 3) rfl)) rfl (fun (hc65 : (so : Int) = 1) => ?_) (fun (hc65 : ¬ ((so : Int) = 1)) => ?_)
  · refine zp_const (pc := 10) hx hb (zd_X7_wordIn (10, .iconst 0, 1, 0, []) (List.mem_of_getElem? (i := 6) rfl)) rfl rfl ?_
    refine zp_store (L' := [(2, 0, 0), (0, 2, (a : Int)), (1, 2, (sx : Int))]) (pc := 11) hx hb hnL (zd_X7_wordIn (11, .istore_n 2, 1, 0, []) (List.mem_of_getElem? (i := 7) rfl)) rfl rfl rfl ?_
    refine zp_const (pc := 12) hx hb (zd_X7_wordIn (12, .iconst 0, 1, 0, []) (List.mem_of_getElem? (i := 8) rfl)) rfl rfl ?_
    refine zp_store (L' := [(3, 0, 0), (2, 0, 0), (0, 2, (a : Int)), (1, 2, (sx : Int))]) (pc := 13) hx hb hnL (zd_X7_wordIn (13, .istore_n 3, 1, 0, []) (List.mem_of_getElem? (i := 9) rfl)) rfl rfl rfl ?_
    refine zp_const (pc := 14) hx hb (zd_X7_wordIn (14, .iconst 0, 1, 0, []) (List.mem_of_getElem? (i := 10) rfl)) rfl rfl ?_
    refine zp_store (L' := [(4, 0, 0), (3, 0, 0), (2, 0, 0), (0, 2, (a : Int)), (1, 2, (sx : Int))]) (pc := 15) hx hb hnL (zd_X7_wordIn (15, .istore 4, 2, 0, []) (List.mem_of_getElem? (i := 11) rfl)) rfl rfl rfl ?_
    have h9 := loop (by omega) 19 0 (by omega) (by omega) rfl
    exact h9
  · refine zp_const (pc := 8) hx hb (zd_X7_wordIn (8, .iconst (-1), 1, 0, []) (List.mem_of_getElem? (i := 4) rfl)) rfl rfl ?_
    refine zp_iret (pc := 9) (n := (-1)) hx hb hE hQ hU5 rfl (by decide) (zd_X7_wordIn (9, .ireturn, 1, 0, []) (List.mem_of_getElem? (i := 5) rfl)) (j := 0) rfl (zp_o0 (by omega) (by omega) (by omega) (by omega)) ?_
    rw [hps]
    refine ⟨rfl, rfl, ?_⟩
    rw [← hso, if_neg (by omega)]
noncomputable def zK_vwow : zk_K := (zt_mn 46, prog_9_method_10_code, 6, (Option.some Jvm.ClassFile.FieldType.int), 1, 7, [(2, 7, 0, 0), (2, 201, 0, 0)], [(some (0, 0, (-1), 400), [])], [], (9, 221, 0, 0))
noncomputable def zφ_vwow (b : Nat) (B : Nat → Int) (ln tk : Nat) : (Nat → Option Nat) → (Nat → Nat → Int) → List Int → Prop := fun P G ps => zTt (zp_0 ps) b G B ln tk
noncomputable def zψ_vwow (b : Nat) (B : Nat → Int) (ln tk : Nat) : (Nat → Option Nat) → (Nat → Nat → Int) → List Int → (Nat → Option Nat) → (Nat → Nat → Int) → Int → Prop := fun P G ps P' G' rn => P' = P ∧ G' = G ∧ rn = if zy_so B ln tk = 1 then zs_g za_ow 37 (zBc B ln) (zy_fr B ln tk) ((zy_to B ln tk - zy_fr B ln tk : Nat) : Int) 0 else -1
theorem zX_vwow {l : Launch} {w : zk_W} (hW : zh_W w) (b : Nat) (B : Nat → Int) (ln tk : Nat) : zk_metX l w zt_dv zt_TB zK_vwow (zp_A (zφ_vwow b B ln tk)) (zp_B (zψ_vwow b B ln tk)) ∧ zk_cok w zt_TB zK_vwow := by
  refine zp_methX (cn := "WoundTown$Tape") zp_lkallT9 hW (pl := 733) rfl (by decide +kernel) (fun p e R s m args below meth c Q u hx hb hE hQ hU5 heff hnL hok hφ => ?_)
  have hw := hW.1
  obtain ⟨p0, p1, hps, k0, k1⟩ := zp_ps2 hok
  obtain ⟨a, rfl, hp⟩ := zp_this k0
  have hrm : zk_Kr (zk_ev (zt_types, zp_lkT9, zt_dv, [], [], zp_lcT9, zK_vwow)) = zk_Kr zK_vwow := rfl
  rw [hps] at hφ ⊢
  show zp_J p l e R s m args below meth c Q w u [] 0 [(0, 2, (a : Int)), (1, 2, p1)] [] u.1 (zp_n u.2.1)
  obtain ⟨sx, rfl, qs⟩ := zp_this k1
  have hT : zTt a b (zp_n u.2.1) B ln tk := hφ
  have hlen := zTt_len hT
  obtain ⟨⟨t0, t1, t2, t3⟩, t5, t6, c2, c3, c4, c5⟩ := hT
  obtain ⟨so, hso⟩ : ∃ x : Nat, x = zy_so B ln tk := ⟨_, rfl⟩
  obtain ⟨f, hf⟩ : ∃ x : Nat, x = zy_fr B ln tk := ⟨_, rfl⟩
  obtain ⟨q, hq⟩ : ∃ x : Nat, x = zy_to B ln tk := ⟨_, rfl⟩
  rw [← hso] at c2
  rw [← hf] at c3 hlen
  rw [← hq] at c4 hlen
  obtain ⟨m9, hm⟩ : ∃ x : Nat, x = q - f := ⟨_, rfl⟩
  have hby : ∀ j, zt_by 1 j = za_ow j := fun j => rfl
  have tail : so = 1 → zs_g za_ow 37 (zBc B ln) f (m9 : Int) 0 = -1 → ∀ (sm ix : Int), zp_J p l e R s m args below meth c Q w u [] 17 [(4, 0, 38), (3, 0, sm), (2, 0, ix), (0, 2, (a : Int)), (1, 2, (sx : Int))] [] u.1 (zp_n u.2.1) := by
    intro hs1 hg sm ix
    refine zp_load (pc := 17) hx hb (zd_X7_wordIn (17, .iload 4, 2, 0, []) (List.mem_of_getElem? (i := 12) rfl)) rfl (j := 0) rfl ?_
    refine zp_load (pc := 19) hx hb (zd_X7_wordIn (19, .aload_n 1, 1, 0, []) (List.mem_of_getElem? (i := 13) rfl)) rfl (j := 4) rfl ?_
    refine zp_callS (pc := 20) (how := 0) (idx := 45) (mi := 47) (S := [(0, 38)]) hx hb hE hw heff hrm (zY_len hW (t := 201) (n := 37) (by decide) rfl (by decide)) rfl (j := 3) rfl rfl (by decide +kernel) (zd_X7_wordIn (20, .invokevirtual 45, 3, 0, []) (List.mem_of_getElem? (i := 14) rfl)) [(sx : Int)] rfl ⟨zp_o2 qs, trivial⟩ (Nat.le_of_ble_eq_true rfl) trivial (fun al hal rnl66 Pl66 Gl66 hextl66 hfrl66 hokl66 hcsl66 hpsil66 => ?_)
    obtain rfl := List.mem_singleton.mp hal
    have hrl66 := zp_int (hokl66 _ rfl).1
    obtain ⟨hPel66, hGel66, htl66⟩ := hpsil66
    rw [hPel66, hGel66]
    obtain rfl : rnl66 = 37 := htl66
    refine zp_icmp (pc := 23) (tgt := 112) hx hb (zd_X7_wordIn (23, .if_icmp .gt 89, 3, 0, []) (List.mem_of_getElem? (i := 15) rfl)) rfl (fun (hc67 : 37 < 38) => ?_) (fun (hc67 : ¬ (37 < 38)) => ?_)
    · refine zp_const (pc := 112) hx hb (zd_X7_wordIn (112, .iconst (-1), 1, 0, []) (List.mem_of_getElem? (i := 61) rfl)) rfl rfl ?_
      refine zp_iret (pc := 113) (n := (-1)) hx hb hE hQ hU5 rfl (by decide) (zd_X7_wordIn (113, .ireturn, 1, 0, []) (List.mem_of_getElem? (i := 62) rfl)) (j := 0) rfl (zp_o0 (by omega) (by omega) (by omega) (by omega)) ?_
      rw [hps]
      refine ⟨rfl, rfl, ?_⟩
      rw [← hso, if_pos hs1, ← hf, ← hq, ← hm]
      exact hg.symm
    · exfalso
      omega
  have loop : so = 1 → ∀ (n9 k : Nat), 38 - k < n9 → k ≤ 37 → zs_g za_ow 37 (zBc B ln) f (m9 : Int) 0 = zs_g za_ow 37 (zBc B ln) f (m9 : Int) k → zp_J p l e R s m args below meth c Q w u [] 17 [(4, 0, (k : Int)), (3, 0, (zs_sm za_ow (zBc B ln) f k)), (2, 0, ((zs_ix za_ow k : Nat) : Int)), (0, 2, (a : Int)), (1, 2, (sx : Int))] [] u.1 (zp_n u.2.1) := by
    intro hs1 n9
    induction n9 with
    | zero => intro k h; exact absurd h (Nat.not_lt_zero _)
    | succ n9 ih =>
      intro k hn hk hg
      have hsm := zs_sm_le (S := za_ow) (B := zBc B ln) (st := f) k
      have hix := zs_ix_le (S := za_ow) k
      obtain ⟨sm, hsm0⟩ : ∃ x : Int, x = zs_sm za_ow (zBc B ln) f k := ⟨_, rfl⟩
      obtain ⟨ix, hix0⟩ : ∃ x : Nat, x = zs_ix za_ow k := ⟨_, rfl⟩
      rw [← hsm0, ← hix0]
      rw [← hsm0] at hsm
      rw [← hix0] at hix
      have e1 : zs_sm za_ow (zBc B ln) f (k + 1) = if za_ow k = 32 then 0 else if sm ≠ -1 ∧ zBc B ln (f + sm.toNat) = za_ow k then sm + 1 else -1 := by
        rw [hsm0]
        rfl
      have e2 : zs_ix za_ow (k + 1) = if za_ow k = 32 then ix + 1 else ix := by
        rw [hix0]
        rfl
      have go : ¬ ((k = 37 ∨ za_ow k = 32) ∧ sm = (m9 : Int)) → zs_g za_ow 37 (zBc B ln) f (m9 : Int) 0 = zs_g za_ow 37 (zBc B ln) f (m9 : Int) (k + 1) := fun z => by
        rw [hg, zs_g_step hk, if_neg (by rw [← hsm0]; exact z)]
      refine zp_load (pc := 17) hx hb (zd_X7_wordIn (17, .iload 4, 2, 0, []) (List.mem_of_getElem? (i := 12) rfl)) rfl (j := 0) rfl ?_
      refine zp_load (pc := 19) hx hb (zd_X7_wordIn (19, .aload_n 1, 1, 0, []) (List.mem_of_getElem? (i := 13) rfl)) rfl (j := 4) rfl ?_
      refine zp_callS (pc := 20) (how := 0) (idx := 45) (mi := 47) (S := [(0, (k : Int))]) hx hb hE hw heff hrm (zY_len hW (t := 201) (n := 37) (by decide) rfl (by decide)) rfl (j := 3) rfl rfl (by decide +kernel) (zd_X7_wordIn (20, .invokevirtual 45, 3, 0, []) (List.mem_of_getElem? (i := 14) rfl)) [(sx : Int)] rfl ⟨zp_o2 qs, trivial⟩ (Nat.le_of_ble_eq_true rfl) trivial (fun al hal rnl68 Pl68 Gl68 hextl68 hfrl68 hokl68 hcsl68 hpsil68 => ?_)
      obtain rfl := List.mem_singleton.mp hal
      have hrl68 := zp_int (hokl68 _ rfl).1
      obtain ⟨hPel68, hGel68, htl68⟩ := hpsil68
      rw [hPel68, hGel68]
      obtain rfl : rnl68 = 37 := htl68
      refine zp_icmp (pc := 23) (tgt := 112) hx hb (zd_X7_wordIn (23, .if_icmp .gt 89, 3, 0, []) (List.mem_of_getElem? (i := 15) rfl)) rfl (fun (hc69 : 37 < (k : Int)) => ?_) (fun (hc69 : ¬ (37 < (k : Int))) => ?_)
      · refine zp_const (pc := 112) hx hb (zd_X7_wordIn (112, .iconst (-1), 1, 0, []) (List.mem_of_getElem? (i := 61) rfl)) rfl rfl ?_
        exfalso
        omega
      · refine zp_load (pc := 26) hx hb (zd_X7_wordIn (26, .iload 4, 2, 0, []) (List.mem_of_getElem? (i := 16) rfl)) rfl (j := 0) rfl ?_
        refine zp_load (pc := 28) hx hb (zd_X7_wordIn (28, .aload_n 1, 1, 0, []) (List.mem_of_getElem? (i := 17) rfl)) rfl (j := 4) rfl ?_
        refine zp_callS (pc := 29) (how := 0) (idx := 45) (mi := 47) (S := [(0, (k : Int))]) hx hb hE hw heff hrm (zY_len hW (t := 201) (n := 37) (by decide) rfl (by decide)) rfl (j := 3) rfl rfl (by decide +kernel) (zd_X7_wordIn (29, .invokevirtual 45, 3, 0, []) (List.mem_of_getElem? (i := 18) rfl)) [(sx : Int)] rfl ⟨zp_o2 qs, trivial⟩ (Nat.le_of_ble_eq_true rfl) trivial (fun al hal rnl70 Pl70 Gl70 hextl70 hfrl70 hokl70 hcsl70 hpsil70 => ?_)
        obtain rfl := List.mem_singleton.mp hal
        have hrl70 := zp_int (hokl70 _ rfl).1
        obtain ⟨hPel70, hGel70, htl70⟩ := hpsil70
        rw [hPel70, hGel70]
        obtain rfl : rnl70 = 37 := htl70
        refine zp_icmp (pc := 32) (tgt := 44) hx hb (zd_X7_wordIn (32, .if_icmp .ge 12, 3, 0, []) (List.mem_of_getElem? (i := 19) rfl)) rfl (fun (hc71 : 37 ≤ (k : Int)) => ?_) (fun (hc71 : ¬ (37 ≤ (k : Int))) => ?_)
        · refine zp_const (pc := 44) hx hb (zd_X7_wordIn (44, .bipush 32, 2, 0, []) (List.mem_of_getElem? (i := 24) rfl)) rfl rfl ?_
          refine zp_store (L' := [(5, 0, 32), (4, 0, (k : Int)), (3, 0, sm), (2, 0, (ix : Int)), (0, 2, (a : Int)), (1, 2, (sx : Int))]) (pc := 46) hx hb hnL (zd_X7_wordIn (46, .istore 5, 2, 0, []) (List.mem_of_getElem? (i := 25) rfl)) rfl rfl rfl ?_
          refine zp_load (pc := 48) hx hb (zd_X7_wordIn (48, .iload 5, 2, 0, []) (List.mem_of_getElem? (i := 26) rfl)) rfl (j := 0) rfl ?_
          refine zp_const (pc := 50) hx hb (zd_X7_wordIn (50, .bipush 32, 2, 0, []) (List.mem_of_getElem? (i := 27) rfl)) rfl rfl ?_
          refine zp_icmp (pc := 52) (tgt := 86) hx hb (zd_X7_wordIn (52, .if_icmp .eq 34, 3, 0, []) (List.mem_of_getElem? (i := 28) rfl)) rfl (fun (hc72 : 32 = 32) => ?_) (fun (hc72 : ¬ (32 = 32)) => ?_)
          · refine zp_load (pc := 86) hx hb (zd_X7_wordIn (86, .iload_n 3, 1, 0, []) (List.mem_of_getElem? (i := 47) rfl)) rfl (j := 2) rfl ?_
            refine zp_load (pc := 87) hx hb (zd_X7_wordIn (87, .aload_n 0, 1, 0, []) (List.mem_of_getElem? (i := 48) rfl)) rfl (j := 4) rfl ?_
            refine zp_getf (n := (q : Int)) (pc := 88) hx hb hE hw (zd_X7_wordIn (88, .getfield 19, 3, 0, []) (List.mem_of_getElem? (i := 49) rfl)) (j := 5) rfl rfl rfl hp c4 ?_
            refine zp_load (pc := 91) hx hb (zd_X7_wordIn (91, .aload_n 0, 1, 0, []) (List.mem_of_getElem? (i := 50) rfl)) rfl (j := 4) rfl ?_
            refine zp_getf (n := (f : Int)) (pc := 92) hx hb hE hw (zd_X7_wordIn (92, .getfield 29, 3, 0, []) (List.mem_of_getElem? (i := 51) rfl)) (j := 4) rfl rfl rfl hp c3 ?_
            refine zp_sub (n := ((q : Int) + (-1) * (f : Int))) (pc := 95) hx hb (zd_X7_wordIn (95, .isub, 1, 0, []) (List.mem_of_getElem? (i := 52) rfl)) (by omega) (zp_r0 (by omega) (by omega)) ?_
            refine zp_icmp (pc := 96) (tgt := 101) hx hb (zd_X7_wordIn (96, .if_icmp .ne 5, 3, 0, []) (List.mem_of_getElem? (i := 53) rfl)) rfl (fun (hc73 : ¬ sm = ((q : Int) + (-1) * (f : Int))) => ?_) (fun (hc73 : ¬ (¬ sm = ((q : Int) + (-1) * (f : Int)))) => ?_)
            · refine zp_iinc (L' := [(2, 0, ((ix : Int) + 1)), (5, 0, 32), (4, 0, (k : Int)), (3, 0, sm), (0, 2, (a : Int)), (1, 2, (sx : Int))]) (n := ((ix : Int) + 1)) (pc := 101) hx hb hnL (zd_X7_wordIn (101, .iinc 2 1, 3, 0, []) (List.mem_of_getElem? (i := 56) rfl)) (j := 3) rfl (by omega) (zp_r0 (by omega) (by omega)) rfl rfl ?_
              refine zp_const (pc := 104) hx hb (zd_X7_wordIn (104, .iconst 0, 1, 0, []) (List.mem_of_getElem? (i := 57) rfl)) rfl rfl ?_
              refine zp_store (L' := [(3, 0, 0), (2, 0, ((ix : Int) + 1)), (5, 0, 32), (4, 0, (k : Int)), (0, 2, (a : Int)), (1, 2, (sx : Int))]) (pc := 105) hx hb hnL (zd_X7_wordIn (105, .istore_n 3, 1, 0, []) (List.mem_of_getElem? (i := 58) rfl)) rfl rfl rfl ?_
              refine zp_iinc (L' := [(4, 0, ((k : Int) + 1)), (3, 0, 0), (2, 0, ((ix : Int) + 1)), (5, 0, 32), (0, 2, (a : Int)), (1, 2, (sx : Int))]) (n := ((k : Int) + 1)) (pc := 106) hx hb hnL (zd_X7_wordIn (106, .iinc 4 1, 3, 0, []) (List.mem_of_getElem? (i := 59) rfl)) (j := 3) rfl (by omega) (zp_r0 (by omega) (by omega)) rfl rfl ?_
              refine zp_goto (tgt := 17) (pc := 109) hx hb (zd_X7_wordIn (109, .goto (-92), 3, 0, []) (List.mem_of_getElem? (i := 60) rfl)) rfl ?_
              refine zp_drop (L' := [(4, 0, 38), (3, 0, 0), (2, 0, ((ix : Int) + 1)), (0, 2, (a : Int)), (1, 2, (sx : Int))]) (by simp <;> omega) ?_
              have hkn : k = 37 := by omega
              exact tail hs1 ((go (fun z => by omega)).trans (zs_g_end (by omega))) _ _
            · refine zp_load (pc := 99) hx hb (zd_X7_wordIn (99, .iload_n 2, 1, 0, []) (List.mem_of_getElem? (i := 54) rfl)) rfl (j := 3) rfl ?_
              refine zp_iret (pc := 100) (n := (ix : Int)) hx hb hE hQ hU5 rfl (by decide) (zd_X7_wordIn (100, .ireturn, 1, 0, []) (List.mem_of_getElem? (i := 55) rfl)) (j := 0) rfl (zp_o0 (by omega) (by omega) (by omega) (by omega)) ?_
              rw [hps]
              refine ⟨rfl, rfl, ?_⟩
              rw [← hso, if_pos hs1, ← hf, ← hq, ← hm, hg, zs_g_step hk, if_pos ⟨by omega, by rw [← hsm0]; omega⟩, ← hix0]
          · exfalso
            omega
        · refine zp_load (pc := 35) hx hb (zd_X7_wordIn (35, .aload_n 1, 1, 0, []) (List.mem_of_getElem? (i := 20) rfl)) rfl (j := 4) rfl ?_
          refine zp_load (pc := 36) hx hb (zd_X7_wordIn (36, .iload 4, 2, 0, []) (List.mem_of_getElem? (i := 21) rfl)) rfl (j := 0) rfl ?_
          refine zp_callS (pc := 38) (how := 0) (idx := 50) (mi := 49) (S := []) hx hb hE hw heff hrm (zY_chr hW (t := 201) (n := 37) (by decide) rfl (by decide)) rfl (j := 4) rfl rfl (by decide +kernel) (zd_X7_wordIn (38, .invokevirtual 50, 3, 0, []) (List.mem_of_getElem? (i := 22) rfl)) [(sx : Int), (k : Int)] rfl ⟨zp_o2 qs, zp_o0 (by omega) (by omega) (by omega) (by omega), trivial⟩ (Nat.le_of_ble_eq_true rfl) trivial (fun al hal rnc74 Pc74 Gc74 hextc74 hfrc74 hokc74 hcsc74 hpsic74 => ?_)
          obtain rfl := List.mem_singleton.mp hal
          have hrc74 := zp_int (hokc74 _ rfl).1
          obtain ⟨hPec74, hGec74, htc74⟩ := hpsic74
          rw [hPec74, hGec74]
          have hcc74 : rnc74 = za_ow k := by
            refine htc74.trans ?_
            show zt_by (201 - 200) ((k : Int)).toNat = _
            rw [Int.toNat_natCast]
            exact hby k
          refine zp_goto (tgt := 46) (pc := 41) hx hb (zd_X7_wordIn (41, .goto 5, 3, 0, []) (List.mem_of_getElem? (i := 23) rfl)) rfl ?_
          refine zp_store (L' := [(5, 0, rnc74), (4, 0, (k : Int)), (3, 0, sm), (2, 0, (ix : Int)), (0, 2, (a : Int)), (1, 2, (sx : Int))]) (pc := 46) hx hb hnL (zd_X7_wordIn (46, .istore 5, 2, 0, []) (List.mem_of_getElem? (i := 25) rfl)) rfl rfl rfl ?_
          refine zp_load (pc := 48) hx hb (zd_X7_wordIn (48, .iload 5, 2, 0, []) (List.mem_of_getElem? (i := 26) rfl)) rfl (j := 0) rfl ?_
          refine zp_const (pc := 50) hx hb (zd_X7_wordIn (50, .bipush 32, 2, 0, []) (List.mem_of_getElem? (i := 27) rfl)) rfl rfl ?_
          refine zp_icmp (pc := 52) (tgt := 86) hx hb (zd_X7_wordIn (52, .if_icmp .eq 34, 3, 0, []) (List.mem_of_getElem? (i := 28) rfl)) rfl (fun (hc75 : rnc74 = 32) => ?_) (fun (hc75 : ¬ (rnc74 = 32)) => ?_)
          · refine zp_load (pc := 86) hx hb (zd_X7_wordIn (86, .iload_n 3, 1, 0, []) (List.mem_of_getElem? (i := 47) rfl)) rfl (j := 2) rfl ?_
            refine zp_load (pc := 87) hx hb (zd_X7_wordIn (87, .aload_n 0, 1, 0, []) (List.mem_of_getElem? (i := 48) rfl)) rfl (j := 4) rfl ?_
            refine zp_getf (n := (q : Int)) (pc := 88) hx hb hE hw (zd_X7_wordIn (88, .getfield 19, 3, 0, []) (List.mem_of_getElem? (i := 49) rfl)) (j := 5) rfl rfl rfl hp c4 ?_
            refine zp_load (pc := 91) hx hb (zd_X7_wordIn (91, .aload_n 0, 1, 0, []) (List.mem_of_getElem? (i := 50) rfl)) rfl (j := 4) rfl ?_
            refine zp_getf (n := (f : Int)) (pc := 92) hx hb hE hw (zd_X7_wordIn (92, .getfield 29, 3, 0, []) (List.mem_of_getElem? (i := 51) rfl)) (j := 4) rfl rfl rfl hp c3 ?_
            refine zp_sub (n := ((q : Int) + (-1) * (f : Int))) (pc := 95) hx hb (zd_X7_wordIn (95, .isub, 1, 0, []) (List.mem_of_getElem? (i := 52) rfl)) (by omega) (zp_r0 (by omega) (by omega)) ?_
            refine zp_icmp (pc := 96) (tgt := 101) hx hb (zd_X7_wordIn (96, .if_icmp .ne 5, 3, 0, []) (List.mem_of_getElem? (i := 53) rfl)) rfl (fun (hc76 : ¬ sm = ((q : Int) + (-1) * (f : Int))) => ?_) (fun (hc76 : ¬ (¬ sm = ((q : Int) + (-1) * (f : Int)))) => ?_)
            · refine zp_iinc (L' := [(2, 0, ((ix : Int) + 1)), (5, 0, rnc74), (4, 0, (k : Int)), (3, 0, sm), (0, 2, (a : Int)), (1, 2, (sx : Int))]) (n := ((ix : Int) + 1)) (pc := 101) hx hb hnL (zd_X7_wordIn (101, .iinc 2 1, 3, 0, []) (List.mem_of_getElem? (i := 56) rfl)) (j := 3) rfl (by omega) (zp_r0 (by omega) (by omega)) rfl rfl ?_
              refine zp_const (pc := 104) hx hb (zd_X7_wordIn (104, .iconst 0, 1, 0, []) (List.mem_of_getElem? (i := 57) rfl)) rfl rfl ?_
              refine zp_store (L' := [(3, 0, 0), (2, 0, ((ix : Int) + 1)), (5, 0, rnc74), (4, 0, (k : Int)), (0, 2, (a : Int)), (1, 2, (sx : Int))]) (pc := 105) hx hb hnL (zd_X7_wordIn (105, .istore_n 3, 1, 0, []) (List.mem_of_getElem? (i := 58) rfl)) rfl rfl rfl ?_
              refine zp_iinc (L' := [(4, 0, ((k : Int) + 1)), (3, 0, 0), (2, 0, ((ix : Int) + 1)), (5, 0, rnc74), (0, 2, (a : Int)), (1, 2, (sx : Int))]) (n := ((k : Int) + 1)) (pc := 106) hx hb hnL (zd_X7_wordIn (106, .iinc 4 1, 3, 0, []) (List.mem_of_getElem? (i := 59) rfl)) (j := 3) rfl (by omega) (zp_r0 (by omega) (by omega)) rfl rfl ?_
              refine zp_goto (tgt := 17) (pc := 109) hx hb (zd_X7_wordIn (109, .goto (-92), 3, 0, []) (List.mem_of_getElem? (i := 60) rfl)) rfl ?_
              refine zp_drop (L' := [(4, 0, ((k + 1 : Nat) : Int)), (3, 0, 0), (2, 0, ((ix + 1 : Nat) : Int)), (0, 2, (a : Int)), (1, 2, (sx : Int))]) (by simp <;> omega) ?_
              have ih9 := ih (k + 1) (by omega) (by omega) (go (fun z => by omega))
              rw [e1, e2] at ih9
              rw [if_pos (by omega), if_pos (by omega)] at ih9
              exact ih9
            · refine zp_load (pc := 99) hx hb (zd_X7_wordIn (99, .iload_n 2, 1, 0, []) (List.mem_of_getElem? (i := 54) rfl)) rfl (j := 3) rfl ?_
              refine zp_iret (pc := 100) (n := (ix : Int)) hx hb hE hQ hU5 rfl (by decide) (zd_X7_wordIn (100, .ireturn, 1, 0, []) (List.mem_of_getElem? (i := 55) rfl)) (j := 0) rfl (zp_o0 (by omega) (by omega) (by omega) (by omega)) ?_
              rw [hps]
              refine ⟨rfl, rfl, ?_⟩
              rw [← hso, if_pos hs1, ← hf, ← hq, ← hm, hg, zs_g_step hk, if_pos ⟨by omega, by rw [← hsm0]; omega⟩, ← hix0]
          · refine zp_load (pc := 55) hx hb (zd_X7_wordIn (55, .iload_n 3, 1, 0, []) (List.mem_of_getElem? (i := 29) rfl)) rfl (j := 2) rfl ?_
            refine zp_const (pc := 56) hx hb (zd_X7_wordIn (56, .iconst (-1), 1, 0, []) (List.mem_of_getElem? (i := 30) rfl)) rfl rfl ?_
            refine zp_icmp (pc := 57) (tgt := 81) hx hb (zd_X7_wordIn (57, .if_icmp .eq 24, 3, 0, []) (List.mem_of_getElem? (i := 31) rfl)) rfl (fun (hc77 : sm = (-1)) => ?_) (fun (hc77 : ¬ (sm = (-1))) => ?_)
            · refine zp_const (pc := 81) hx hb (zd_X7_wordIn (81, .iconst (-1), 1, 0, []) (List.mem_of_getElem? (i := 44) rfl)) rfl rfl ?_
              refine zp_store (L' := [(3, 0, (-1)), (5, 0, rnc74), (4, 0, (k : Int)), (2, 0, (ix : Int)), (0, 2, (a : Int)), (1, 2, (sx : Int))]) (pc := 82) hx hb hnL (zd_X7_wordIn (82, .istore_n 3, 1, 0, []) (List.mem_of_getElem? (i := 45) rfl)) rfl rfl rfl ?_
              refine zp_goto (tgt := 106) (pc := 83) hx hb (zd_X7_wordIn (83, .goto 23, 3, 0, []) (List.mem_of_getElem? (i := 46) rfl)) rfl ?_
              refine zp_iinc (L' := [(4, 0, ((k : Int) + 1)), (3, 0, (-1)), (5, 0, rnc74), (2, 0, (ix : Int)), (0, 2, (a : Int)), (1, 2, (sx : Int))]) (n := ((k : Int) + 1)) (pc := 106) hx hb hnL (zd_X7_wordIn (106, .iinc 4 1, 3, 0, []) (List.mem_of_getElem? (i := 59) rfl)) (j := 2) rfl (by omega) (zp_r0 (by omega) (by omega)) rfl rfl ?_
              refine zp_goto (tgt := 17) (pc := 109) hx hb (zd_X7_wordIn (109, .goto (-92), 3, 0, []) (List.mem_of_getElem? (i := 60) rfl)) rfl ?_
              refine zp_drop (L' := [(4, 0, ((k + 1 : Nat) : Int)), (3, 0, (-1)), (2, 0, (ix : Int)), (0, 2, (a : Int)), (1, 2, (sx : Int))]) (by simp <;> omega) ?_
              have ih9 := ih (k + 1) (by omega) (by omega) (go (fun z => by omega))
              rw [e1, e2] at ih9
              rw [if_neg (by omega), if_neg (by omega), if_neg (by omega)] at ih9
              exact ih9
            · refine zp_load (pc := 60) hx hb (zd_X7_wordIn (60, .aload_n 0, 1, 0, []) (List.mem_of_getElem? (i := 32) rfl)) rfl (j := 4) rfl ?_
              refine zp_load (pc := 61) hx hb (zd_X7_wordIn (61, .aload_n 0, 1, 0, []) (List.mem_of_getElem? (i := 33) rfl)) rfl (j := 4) rfl ?_
              refine zp_getf (n := (f : Int)) (pc := 62) hx hb hE hw (zd_X7_wordIn (62, .getfield 29, 3, 0, []) (List.mem_of_getElem? (i := 34) rfl)) (j := 4) rfl rfl rfl hp c3 ?_
              refine zp_load (pc := 65) hx hb (zd_X7_wordIn (65, .iload_n 3, 1, 0, []) (List.mem_of_getElem? (i := 35) rfl)) rfl (j := 2) rfl ?_
              refine zp_add (n := ((f : Int) + sm)) (pc := 66) hx hb (zd_X7_wordIn (66, .iadd, 1, 0, []) (List.mem_of_getElem? (i := 36) rfl)) (by omega) (zp_r0 (by omega) (by omega)) ?_
              refine zp_call (pc := 67) (how := 0) (idx := 25) (mi := 37) (S := []) hx hb hE hw heff hrm (zX_bya hW) rfl (j := 1) rfl rfl (by decide +kernel) (zd_X7_wordIn (67, .invokevirtual 25, 3, 0, []) (List.mem_of_getElem? (i := 37) rfl)) [(a : Int), ((f : Int) + sm)] rfl ⟨zp_o2 hp, zp_o0 (by omega) (by omega) (by omega) (by omega), trivial⟩ (Nat.le_of_ble_eq_true rfl) trivial (fun al hal rnb78 Pb78 Gb78 hextb78 hfrb78 hokb78 hcsb78 hpsib78 => ?_)
              obtain rfl := List.mem_singleton.mp hal
              have hrb78 := zp_int (hokb78 _ rfl).1
              obtain ⟨hPeb78, hGeb78, htb78⟩ := hpsib78
              rw [hPeb78, hGeb78]
              have hvb78 : rnb78 = zBc B ln (f + sm.toNat) := by
                have h9 := htb78 (f + sm.toNat) (show ((f : Int) + sm) = ((f + sm.toNat : Nat) : Int) by omega)
                unfold zBc
                by_cases z : f + sm.toNat < ln
                · rw [if_pos z]
                  refine (h9.1 (show ((f + sm.toNat : Nat) : Int) < zp_n u.2.1 a 1 by rw [t1]; omega)).trans ?_
                  show zp_n u.2.1 (zp_n u.2.1 a 0).toNat (2000 + (f + sm.toNat)) = _
                  rw [t0, Int.toNat_natCast]
                  exact t3 _
                · rw [if_neg z]
                  exact h9.2 (show ¬ ((f + sm.toNat : Nat) : Int) < zp_n u.2.1 a 1 by rw [t1]; omega)
              refine zp_load (pc := 70) hx hb (zd_X7_wordIn (70, .iload 5, 2, 0, []) (List.mem_of_getElem? (i := 38) rfl)) rfl (j := 0) rfl ?_
              refine zp_icmp (pc := 72) (tgt := 81) hx hb (zd_X7_wordIn (72, .if_icmp .ne 9, 3, 0, []) (List.mem_of_getElem? (i := 39) rfl)) rfl (fun (hc79 : ¬ rnb78 = rnc74) => ?_) (fun (hc79 : ¬ (¬ rnb78 = rnc74)) => ?_)
              · refine zp_const (pc := 81) hx hb (zd_X7_wordIn (81, .iconst (-1), 1, 0, []) (List.mem_of_getElem? (i := 44) rfl)) rfl rfl ?_
                refine zp_store (L' := [(3, 0, (-1)), (5, 0, rnc74), (4, 0, (k : Int)), (2, 0, (ix : Int)), (0, 2, (a : Int)), (1, 2, (sx : Int))]) (pc := 82) hx hb hnL (zd_X7_wordIn (82, .istore_n 3, 1, 0, []) (List.mem_of_getElem? (i := 45) rfl)) rfl rfl rfl ?_
                refine zp_goto (tgt := 106) (pc := 83) hx hb (zd_X7_wordIn (83, .goto 23, 3, 0, []) (List.mem_of_getElem? (i := 46) rfl)) rfl ?_
                refine zp_iinc (L' := [(4, 0, ((k : Int) + 1)), (3, 0, (-1)), (5, 0, rnc74), (2, 0, (ix : Int)), (0, 2, (a : Int)), (1, 2, (sx : Int))]) (n := ((k : Int) + 1)) (pc := 106) hx hb hnL (zd_X7_wordIn (106, .iinc 4 1, 3, 0, []) (List.mem_of_getElem? (i := 59) rfl)) (j := 2) rfl (by omega) (zp_r0 (by omega) (by omega)) rfl rfl ?_
                refine zp_goto (tgt := 17) (pc := 109) hx hb (zd_X7_wordIn (109, .goto (-92), 3, 0, []) (List.mem_of_getElem? (i := 60) rfl)) rfl ?_
                refine zp_drop (L' := [(4, 0, ((k + 1 : Nat) : Int)), (3, 0, (-1)), (2, 0, (ix : Int)), (0, 2, (a : Int)), (1, 2, (sx : Int))]) (by simp <;> omega) ?_
                have ih9 := ih (k + 1) (by omega) (by omega) (go (fun z => by omega))
                rw [e1, e2] at ih9
                rw [if_neg (by omega), if_neg (by omega), if_neg (by omega)] at ih9
                exact ih9
              · refine zp_load (pc := 75) hx hb (zd_X7_wordIn (75, .iload_n 3, 1, 0, []) (List.mem_of_getElem? (i := 40) rfl)) rfl (j := 2) rfl ?_
                refine zp_const (pc := 76) hx hb (zd_X7_wordIn (76, .iconst 1, 1, 0, []) (List.mem_of_getElem? (i := 41) rfl)) rfl rfl ?_
                refine zp_add (n := (sm + 1)) (pc := 77) hx hb (zd_X7_wordIn (77, .iadd, 1, 0, []) (List.mem_of_getElem? (i := 42) rfl)) (by omega) (zp_r0 (by omega) (by omega)) ?_
                refine zp_goto (tgt := 82) (pc := 78) hx hb (zd_X7_wordIn (78, .goto 4, 3, 0, []) (List.mem_of_getElem? (i := 43) rfl)) rfl ?_
                refine zp_store (L' := [(3, 0, (sm + 1)), (5, 0, rnc74), (4, 0, (k : Int)), (2, 0, (ix : Int)), (0, 2, (a : Int)), (1, 2, (sx : Int))]) (pc := 82) hx hb hnL (zd_X7_wordIn (82, .istore_n 3, 1, 0, []) (List.mem_of_getElem? (i := 45) rfl)) rfl rfl rfl ?_
                refine zp_goto (tgt := 106) (pc := 83) hx hb (zd_X7_wordIn (83, .goto 23, 3, 0, []) (List.mem_of_getElem? (i := 46) rfl)) rfl ?_
                refine zp_iinc (L' := [(4, 0, ((k : Int) + 1)), (3, 0, (sm + 1)), (5, 0, rnc74), (2, 0, (ix : Int)), (0, 2, (a : Int)), (1, 2, (sx : Int))]) (n := ((k : Int) + 1)) (pc := 106) hx hb hnL (zd_X7_wordIn (106, .iinc 4 1, 3, 0, []) (List.mem_of_getElem? (i := 59) rfl)) (j := 2) rfl (by omega) (zp_r0 (by omega) (by omega)) rfl rfl ?_
                refine zp_goto (tgt := 17) (pc := 109) hx hb (zd_X7_wordIn (109, .goto (-92), 3, 0, []) (List.mem_of_getElem? (i := 60) rfl)) rfl ?_
                refine zp_drop (L' := [(4, 0, ((k + 1 : Nat) : Int)), (3, 0, (sm + 1)), (2, 0, (ix : Int)), (0, 2, (a : Int)), (1, 2, (sx : Int))]) (by simp <;> omega) ?_
                have ih9 := ih (k + 1) (by omega) (by omega) (go (fun z => by omega))
                rw [e1, e2] at ih9
                rw [if_neg (by omega), if_pos ⟨by omega, by omega⟩, if_neg (by omega)] at ih9
                exact ih9
  refine zp_load (pc := 0) hx hb (zd_X7_wordIn (0, .aload_n 0, 1, 0, []) (List.mem_of_getElem? (i := 0) rfl)) rfl (j := 0) rfl ?_
  refine zp_getf (n := (so : Int)) (pc := 1) hx hb hE hw (zd_X7_wordIn (1, .getfield 35, 3, 0, []) (List.mem_of_getElem? (i := 1) rfl)) (j := 3) rfl rfl rfl hp c2 ?_
  refine zp_const (pc := 4) hx hb (zd_X7_wordIn (4, .iconst 1, 1, 0, []) (List.mem_of_getElem? (i := 2) rfl)) rfl rfl ?_
  refine zp_icmp (pc := 5) (tgt := 10) hx hb (zd_X7_wordIn (5, .if_icmp .eq 5, 3, 0, []) (List.mem_of_getElem? (i := 3) rfl)) rfl (fun (hc80 : (so : Int) = 1) => ?_) (fun (hc80 : ¬ ((so : Int) = 1)) => ?_)
  · refine zp_const (pc := 10) hx hb (zd_X7_wordIn (10, .iconst 0, 1, 0, []) (List.mem_of_getElem? (i := 6) rfl)) rfl rfl ?_
    refine zp_store (L' := [(2, 0, 0), (0, 2, (a : Int)), (1, 2, (sx : Int))]) (pc := 11) hx hb hnL (zd_X7_wordIn (11, .istore_n 2, 1, 0, []) (List.mem_of_getElem? (i := 7) rfl)) rfl rfl rfl ?_
    refine zp_const (pc := 12) hx hb (zd_X7_wordIn (12, .iconst 0, 1, 0, []) (List.mem_of_getElem? (i := 8) rfl)) rfl rfl ?_
    refine zp_store (L' := [(3, 0, 0), (2, 0, 0), (0, 2, (a : Int)), (1, 2, (sx : Int))]) (pc := 13) hx hb hnL (zd_X7_wordIn (13, .istore_n 3, 1, 0, []) (List.mem_of_getElem? (i := 9) rfl)) rfl rfl rfl ?_
    refine zp_const (pc := 14) hx hb (zd_X7_wordIn (14, .iconst 0, 1, 0, []) (List.mem_of_getElem? (i := 10) rfl)) rfl rfl ?_
    refine zp_store (L' := [(4, 0, 0), (3, 0, 0), (2, 0, 0), (0, 2, (a : Int)), (1, 2, (sx : Int))]) (pc := 15) hx hb hnL (zd_X7_wordIn (15, .istore 4, 2, 0, []) (List.mem_of_getElem? (i := 11) rfl)) rfl rfl rfl ?_
    have h9 := loop (by omega) 39 0 (by omega) (by omega) rfl
    exact h9
  · refine zp_const (pc := 8) hx hb (zd_X7_wordIn (8, .iconst (-1), 1, 0, []) (List.mem_of_getElem? (i := 4) rfl)) rfl rfl ?_
    refine zp_iret (pc := 9) (n := (-1)) hx hb hE hQ hU5 rfl (by decide) (zd_X7_wordIn (9, .ireturn, 1, 0, []) (List.mem_of_getElem? (i := 5) rfl)) (j := 0) rfl (zp_o0 (by omega) (by omega) (by omega) (by omega)) ?_
    rw [hps]
    refine ⟨rfl, rfl, ?_⟩
    rw [← hso, if_neg (by omega)]
noncomputable def zK_vwby : zk_K := (zt_mn 46, prog_9_method_10_code, 6, (Option.some Jvm.ClassFile.FieldType.int), 1, 7, [(2, 7, 0, 0), (2, 203, 0, 0)], [(some (0, 0, (-1), 400), [])], [], (9, 221, 0, 0))
noncomputable def zφ_vwby (b : Nat) (B : Nat → Int) (ln tk : Nat) : (Nat → Option Nat) → (Nat → Nat → Int) → List Int → Prop := fun P G ps => zTt (zp_0 ps) b G B ln tk
noncomputable def zψ_vwby (b : Nat) (B : Nat → Int) (ln tk : Nat) : (Nat → Option Nat) → (Nat → Nat → Int) → List Int → (Nat → Option Nat) → (Nat → Nat → Int) → Int → Prop := fun P G ps P' G' rn => P' = P ∧ G' = G ∧ rn = if zy_so B ln tk = 1 then zs_g za_by 2 (zBc B ln) (zy_fr B ln tk) ((zy_to B ln tk - zy_fr B ln tk : Nat) : Int) 0 else -1
theorem zX_vwby {l : Launch} {w : zk_W} (hW : zh_W w) (b : Nat) (B : Nat → Int) (ln tk : Nat) : zk_metX l w zt_dv zt_TB zK_vwby (zp_A (zφ_vwby b B ln tk)) (zp_B (zψ_vwby b B ln tk)) ∧ zk_cok w zt_TB zK_vwby := by
  refine zp_methX (cn := "WoundTown$Tape") zp_lkallT9 hW (pl := 733) rfl (by decide +kernel) (fun p e R s m args below meth c Q u hx hb hE hQ hU5 heff hnL hok hφ => ?_)
  have hw := hW.1
  obtain ⟨p0, p1, hps, k0, k1⟩ := zp_ps2 hok
  obtain ⟨a, rfl, hp⟩ := zp_this k0
  have hrm : zk_Kr (zk_ev (zt_types, zp_lkT9, zt_dv, [], [], zp_lcT9, zK_vwby)) = zk_Kr zK_vwby := rfl
  rw [hps] at hφ ⊢
  show zp_J p l e R s m args below meth c Q w u [] 0 [(0, 2, (a : Int)), (1, 2, p1)] [] u.1 (zp_n u.2.1)
  obtain ⟨sx, rfl, qs⟩ := zp_this k1
  have hT : zTt a b (zp_n u.2.1) B ln tk := hφ
  have hlen := zTt_len hT
  obtain ⟨⟨t0, t1, t2, t3⟩, t5, t6, c2, c3, c4, c5⟩ := hT
  obtain ⟨so, hso⟩ : ∃ x : Nat, x = zy_so B ln tk := ⟨_, rfl⟩
  obtain ⟨f, hf⟩ : ∃ x : Nat, x = zy_fr B ln tk := ⟨_, rfl⟩
  obtain ⟨q, hq⟩ : ∃ x : Nat, x = zy_to B ln tk := ⟨_, rfl⟩
  rw [← hso] at c2
  rw [← hf] at c3 hlen
  rw [← hq] at c4 hlen
  obtain ⟨m9, hm⟩ : ∃ x : Nat, x = q - f := ⟨_, rfl⟩
  have hby : ∀ j, zt_by 3 j = za_by j := fun j => rfl
  have tail : so = 1 → zs_g za_by 2 (zBc B ln) f (m9 : Int) 0 = -1 → ∀ (sm ix : Int), zp_J p l e R s m args below meth c Q w u [] 17 [(4, 0, 3), (3, 0, sm), (2, 0, ix), (0, 2, (a : Int)), (1, 2, (sx : Int))] [] u.1 (zp_n u.2.1) := by
    intro hs1 hg sm ix
    refine zp_load (pc := 17) hx hb (zd_X7_wordIn (17, .iload 4, 2, 0, []) (List.mem_of_getElem? (i := 12) rfl)) rfl (j := 0) rfl ?_
    refine zp_load (pc := 19) hx hb (zd_X7_wordIn (19, .aload_n 1, 1, 0, []) (List.mem_of_getElem? (i := 13) rfl)) rfl (j := 4) rfl ?_
    refine zp_callS (pc := 20) (how := 0) (idx := 45) (mi := 47) (S := [(0, 3)]) hx hb hE hw heff hrm (zY_len hW (t := 203) (n := 2) (by decide) rfl (by decide)) rfl (j := 3) rfl rfl (by decide +kernel) (zd_X7_wordIn (20, .invokevirtual 45, 3, 0, []) (List.mem_of_getElem? (i := 14) rfl)) [(sx : Int)] rfl ⟨zp_o2 qs, trivial⟩ (Nat.le_of_ble_eq_true rfl) trivial (fun al hal rnl81 Pl81 Gl81 hextl81 hfrl81 hokl81 hcsl81 hpsil81 => ?_)
    obtain rfl := List.mem_singleton.mp hal
    have hrl81 := zp_int (hokl81 _ rfl).1
    obtain ⟨hPel81, hGel81, htl81⟩ := hpsil81
    rw [hPel81, hGel81]
    obtain rfl : rnl81 = 2 := htl81
    refine zp_icmp (pc := 23) (tgt := 112) hx hb (zd_X7_wordIn (23, .if_icmp .gt 89, 3, 0, []) (List.mem_of_getElem? (i := 15) rfl)) rfl (fun (hc82 : 2 < 3) => ?_) (fun (hc82 : ¬ (2 < 3)) => ?_)
    · refine zp_const (pc := 112) hx hb (zd_X7_wordIn (112, .iconst (-1), 1, 0, []) (List.mem_of_getElem? (i := 61) rfl)) rfl rfl ?_
      refine zp_iret (pc := 113) (n := (-1)) hx hb hE hQ hU5 rfl (by decide) (zd_X7_wordIn (113, .ireturn, 1, 0, []) (List.mem_of_getElem? (i := 62) rfl)) (j := 0) rfl (zp_o0 (by omega) (by omega) (by omega) (by omega)) ?_
      rw [hps]
      refine ⟨rfl, rfl, ?_⟩
      rw [← hso, if_pos hs1, ← hf, ← hq, ← hm]
      exact hg.symm
    · exfalso
      omega
  have loop : so = 1 → ∀ (n9 k : Nat), 3 - k < n9 → k ≤ 2 → zs_g za_by 2 (zBc B ln) f (m9 : Int) 0 = zs_g za_by 2 (zBc B ln) f (m9 : Int) k → zp_J p l e R s m args below meth c Q w u [] 17 [(4, 0, (k : Int)), (3, 0, (zs_sm za_by (zBc B ln) f k)), (2, 0, ((zs_ix za_by k : Nat) : Int)), (0, 2, (a : Int)), (1, 2, (sx : Int))] [] u.1 (zp_n u.2.1) := by
    intro hs1 n9
    induction n9 with
    | zero => intro k h; exact absurd h (Nat.not_lt_zero _)
    | succ n9 ih =>
      intro k hn hk hg
      have hsm := zs_sm_le (S := za_by) (B := zBc B ln) (st := f) k
      have hix := zs_ix_le (S := za_by) k
      obtain ⟨sm, hsm0⟩ : ∃ x : Int, x = zs_sm za_by (zBc B ln) f k := ⟨_, rfl⟩
      obtain ⟨ix, hix0⟩ : ∃ x : Nat, x = zs_ix za_by k := ⟨_, rfl⟩
      rw [← hsm0, ← hix0]
      rw [← hsm0] at hsm
      rw [← hix0] at hix
      have e1 : zs_sm za_by (zBc B ln) f (k + 1) = if za_by k = 32 then 0 else if sm ≠ -1 ∧ zBc B ln (f + sm.toNat) = za_by k then sm + 1 else -1 := by
        rw [hsm0]
        rfl
      have e2 : zs_ix za_by (k + 1) = if za_by k = 32 then ix + 1 else ix := by
        rw [hix0]
        rfl
      have go : ¬ ((k = 2 ∨ za_by k = 32) ∧ sm = (m9 : Int)) → zs_g za_by 2 (zBc B ln) f (m9 : Int) 0 = zs_g za_by 2 (zBc B ln) f (m9 : Int) (k + 1) := fun z => by
        rw [hg, zs_g_step hk, if_neg (by rw [← hsm0]; exact z)]
      refine zp_load (pc := 17) hx hb (zd_X7_wordIn (17, .iload 4, 2, 0, []) (List.mem_of_getElem? (i := 12) rfl)) rfl (j := 0) rfl ?_
      refine zp_load (pc := 19) hx hb (zd_X7_wordIn (19, .aload_n 1, 1, 0, []) (List.mem_of_getElem? (i := 13) rfl)) rfl (j := 4) rfl ?_
      refine zp_callS (pc := 20) (how := 0) (idx := 45) (mi := 47) (S := [(0, (k : Int))]) hx hb hE hw heff hrm (zY_len hW (t := 203) (n := 2) (by decide) rfl (by decide)) rfl (j := 3) rfl rfl (by decide +kernel) (zd_X7_wordIn (20, .invokevirtual 45, 3, 0, []) (List.mem_of_getElem? (i := 14) rfl)) [(sx : Int)] rfl ⟨zp_o2 qs, trivial⟩ (Nat.le_of_ble_eq_true rfl) trivial (fun al hal rnl83 Pl83 Gl83 hextl83 hfrl83 hokl83 hcsl83 hpsil83 => ?_)
      obtain rfl := List.mem_singleton.mp hal
      have hrl83 := zp_int (hokl83 _ rfl).1
      obtain ⟨hPel83, hGel83, htl83⟩ := hpsil83
      rw [hPel83, hGel83]
      obtain rfl : rnl83 = 2 := htl83
      refine zp_icmp (pc := 23) (tgt := 112) hx hb (zd_X7_wordIn (23, .if_icmp .gt 89, 3, 0, []) (List.mem_of_getElem? (i := 15) rfl)) rfl (fun (hc84 : 2 < (k : Int)) => ?_) (fun (hc84 : ¬ (2 < (k : Int))) => ?_)
      · refine zp_const (pc := 112) hx hb (zd_X7_wordIn (112, .iconst (-1), 1, 0, []) (List.mem_of_getElem? (i := 61) rfl)) rfl rfl ?_
        exfalso
        omega
      · refine zp_load (pc := 26) hx hb (zd_X7_wordIn (26, .iload 4, 2, 0, []) (List.mem_of_getElem? (i := 16) rfl)) rfl (j := 0) rfl ?_
        refine zp_load (pc := 28) hx hb (zd_X7_wordIn (28, .aload_n 1, 1, 0, []) (List.mem_of_getElem? (i := 17) rfl)) rfl (j := 4) rfl ?_
        refine zp_callS (pc := 29) (how := 0) (idx := 45) (mi := 47) (S := [(0, (k : Int))]) hx hb hE hw heff hrm (zY_len hW (t := 203) (n := 2) (by decide) rfl (by decide)) rfl (j := 3) rfl rfl (by decide +kernel) (zd_X7_wordIn (29, .invokevirtual 45, 3, 0, []) (List.mem_of_getElem? (i := 18) rfl)) [(sx : Int)] rfl ⟨zp_o2 qs, trivial⟩ (Nat.le_of_ble_eq_true rfl) trivial (fun al hal rnl85 Pl85 Gl85 hextl85 hfrl85 hokl85 hcsl85 hpsil85 => ?_)
        obtain rfl := List.mem_singleton.mp hal
        have hrl85 := zp_int (hokl85 _ rfl).1
        obtain ⟨hPel85, hGel85, htl85⟩ := hpsil85
        rw [hPel85, hGel85]
        obtain rfl : rnl85 = 2 := htl85
        refine zp_icmp (pc := 32) (tgt := 44) hx hb (zd_X7_wordIn (32, .if_icmp .ge 12, 3, 0, []) (List.mem_of_getElem? (i := 19) rfl)) rfl (fun (hc86 : 2 ≤ (k : Int)) => ?_) (fun (hc86 : ¬ (2 ≤ (k : Int))) => ?_)
        · refine zp_const (pc := 44) hx hb (zd_X7_wordIn (44, .bipush 32, 2, 0, []) (List.mem_of_getElem? (i := 24) rfl)) rfl rfl ?_
          refine zp_store (L' := [(5, 0, 32), (4, 0, (k : Int)), (3, 0, sm), (2, 0, (ix : Int)), (0, 2, (a : Int)), (1, 2, (sx : Int))]) (pc := 46) hx hb hnL (zd_X7_wordIn (46, .istore 5, 2, 0, []) (List.mem_of_getElem? (i := 25) rfl)) rfl rfl rfl ?_
          refine zp_load (pc := 48) hx hb (zd_X7_wordIn (48, .iload 5, 2, 0, []) (List.mem_of_getElem? (i := 26) rfl)) rfl (j := 0) rfl ?_
          refine zp_const (pc := 50) hx hb (zd_X7_wordIn (50, .bipush 32, 2, 0, []) (List.mem_of_getElem? (i := 27) rfl)) rfl rfl ?_
          refine zp_icmp (pc := 52) (tgt := 86) hx hb (zd_X7_wordIn (52, .if_icmp .eq 34, 3, 0, []) (List.mem_of_getElem? (i := 28) rfl)) rfl (fun (hc87 : 32 = 32) => ?_) (fun (hc87 : ¬ (32 = 32)) => ?_)
          · refine zp_load (pc := 86) hx hb (zd_X7_wordIn (86, .iload_n 3, 1, 0, []) (List.mem_of_getElem? (i := 47) rfl)) rfl (j := 2) rfl ?_
            refine zp_load (pc := 87) hx hb (zd_X7_wordIn (87, .aload_n 0, 1, 0, []) (List.mem_of_getElem? (i := 48) rfl)) rfl (j := 4) rfl ?_
            refine zp_getf (n := (q : Int)) (pc := 88) hx hb hE hw (zd_X7_wordIn (88, .getfield 19, 3, 0, []) (List.mem_of_getElem? (i := 49) rfl)) (j := 5) rfl rfl rfl hp c4 ?_
            refine zp_load (pc := 91) hx hb (zd_X7_wordIn (91, .aload_n 0, 1, 0, []) (List.mem_of_getElem? (i := 50) rfl)) rfl (j := 4) rfl ?_
            refine zp_getf (n := (f : Int)) (pc := 92) hx hb hE hw (zd_X7_wordIn (92, .getfield 29, 3, 0, []) (List.mem_of_getElem? (i := 51) rfl)) (j := 4) rfl rfl rfl hp c3 ?_
            refine zp_sub (n := ((q : Int) + (-1) * (f : Int))) (pc := 95) hx hb (zd_X7_wordIn (95, .isub, 1, 0, []) (List.mem_of_getElem? (i := 52) rfl)) (by omega) (zp_r0 (by omega) (by omega)) ?_
            refine zp_icmp (pc := 96) (tgt := 101) hx hb (zd_X7_wordIn (96, .if_icmp .ne 5, 3, 0, []) (List.mem_of_getElem? (i := 53) rfl)) rfl (fun (hc88 : ¬ sm = ((q : Int) + (-1) * (f : Int))) => ?_) (fun (hc88 : ¬ (¬ sm = ((q : Int) + (-1) * (f : Int)))) => ?_)
            · refine zp_iinc (L' := [(2, 0, ((ix : Int) + 1)), (5, 0, 32), (4, 0, (k : Int)), (3, 0, sm), (0, 2, (a : Int)), (1, 2, (sx : Int))]) (n := ((ix : Int) + 1)) (pc := 101) hx hb hnL (zd_X7_wordIn (101, .iinc 2 1, 3, 0, []) (List.mem_of_getElem? (i := 56) rfl)) (j := 3) rfl (by omega) (zp_r0 (by omega) (by omega)) rfl rfl ?_
              refine zp_const (pc := 104) hx hb (zd_X7_wordIn (104, .iconst 0, 1, 0, []) (List.mem_of_getElem? (i := 57) rfl)) rfl rfl ?_
              refine zp_store (L' := [(3, 0, 0), (2, 0, ((ix : Int) + 1)), (5, 0, 32), (4, 0, (k : Int)), (0, 2, (a : Int)), (1, 2, (sx : Int))]) (pc := 105) hx hb hnL (zd_X7_wordIn (105, .istore_n 3, 1, 0, []) (List.mem_of_getElem? (i := 58) rfl)) rfl rfl rfl ?_
              refine zp_iinc (L' := [(4, 0, ((k : Int) + 1)), (3, 0, 0), (2, 0, ((ix : Int) + 1)), (5, 0, 32), (0, 2, (a : Int)), (1, 2, (sx : Int))]) (n := ((k : Int) + 1)) (pc := 106) hx hb hnL (zd_X7_wordIn (106, .iinc 4 1, 3, 0, []) (List.mem_of_getElem? (i := 59) rfl)) (j := 3) rfl (by omega) (zp_r0 (by omega) (by omega)) rfl rfl ?_
              refine zp_goto (tgt := 17) (pc := 109) hx hb (zd_X7_wordIn (109, .goto (-92), 3, 0, []) (List.mem_of_getElem? (i := 60) rfl)) rfl ?_
              refine zp_drop (L' := [(4, 0, 3), (3, 0, 0), (2, 0, ((ix : Int) + 1)), (0, 2, (a : Int)), (1, 2, (sx : Int))]) (by simp <;> omega) ?_
              have hkn : k = 2 := by omega
              exact tail hs1 ((go (fun z => by omega)).trans (zs_g_end (by omega))) _ _
            · refine zp_load (pc := 99) hx hb (zd_X7_wordIn (99, .iload_n 2, 1, 0, []) (List.mem_of_getElem? (i := 54) rfl)) rfl (j := 3) rfl ?_
              refine zp_iret (pc := 100) (n := (ix : Int)) hx hb hE hQ hU5 rfl (by decide) (zd_X7_wordIn (100, .ireturn, 1, 0, []) (List.mem_of_getElem? (i := 55) rfl)) (j := 0) rfl (zp_o0 (by omega) (by omega) (by omega) (by omega)) ?_
              rw [hps]
              refine ⟨rfl, rfl, ?_⟩
              rw [← hso, if_pos hs1, ← hf, ← hq, ← hm, hg, zs_g_step hk, if_pos ⟨by omega, by rw [← hsm0]; omega⟩, ← hix0]
          · exfalso
            omega
        · refine zp_load (pc := 35) hx hb (zd_X7_wordIn (35, .aload_n 1, 1, 0, []) (List.mem_of_getElem? (i := 20) rfl)) rfl (j := 4) rfl ?_
          refine zp_load (pc := 36) hx hb (zd_X7_wordIn (36, .iload 4, 2, 0, []) (List.mem_of_getElem? (i := 21) rfl)) rfl (j := 0) rfl ?_
          refine zp_callS (pc := 38) (how := 0) (idx := 50) (mi := 49) (S := []) hx hb hE hw heff hrm (zY_chr hW (t := 203) (n := 2) (by decide) rfl (by decide)) rfl (j := 4) rfl rfl (by decide +kernel) (zd_X7_wordIn (38, .invokevirtual 50, 3, 0, []) (List.mem_of_getElem? (i := 22) rfl)) [(sx : Int), (k : Int)] rfl ⟨zp_o2 qs, zp_o0 (by omega) (by omega) (by omega) (by omega), trivial⟩ (Nat.le_of_ble_eq_true rfl) trivial (fun al hal rnc89 Pc89 Gc89 hextc89 hfrc89 hokc89 hcsc89 hpsic89 => ?_)
          obtain rfl := List.mem_singleton.mp hal
          have hrc89 := zp_int (hokc89 _ rfl).1
          obtain ⟨hPec89, hGec89, htc89⟩ := hpsic89
          rw [hPec89, hGec89]
          have hcc89 : rnc89 = za_by k := by
            refine htc89.trans ?_
            show zt_by (203 - 200) ((k : Int)).toNat = _
            rw [Int.toNat_natCast]
            exact hby k
          refine zp_goto (tgt := 46) (pc := 41) hx hb (zd_X7_wordIn (41, .goto 5, 3, 0, []) (List.mem_of_getElem? (i := 23) rfl)) rfl ?_
          refine zp_store (L' := [(5, 0, rnc89), (4, 0, (k : Int)), (3, 0, sm), (2, 0, (ix : Int)), (0, 2, (a : Int)), (1, 2, (sx : Int))]) (pc := 46) hx hb hnL (zd_X7_wordIn (46, .istore 5, 2, 0, []) (List.mem_of_getElem? (i := 25) rfl)) rfl rfl rfl ?_
          refine zp_load (pc := 48) hx hb (zd_X7_wordIn (48, .iload 5, 2, 0, []) (List.mem_of_getElem? (i := 26) rfl)) rfl (j := 0) rfl ?_
          refine zp_const (pc := 50) hx hb (zd_X7_wordIn (50, .bipush 32, 2, 0, []) (List.mem_of_getElem? (i := 27) rfl)) rfl rfl ?_
          refine zp_icmp (pc := 52) (tgt := 86) hx hb (zd_X7_wordIn (52, .if_icmp .eq 34, 3, 0, []) (List.mem_of_getElem? (i := 28) rfl)) rfl (fun (hc90 : rnc89 = 32) => ?_) (fun (hc90 : ¬ (rnc89 = 32)) => ?_)
          · refine zp_load (pc := 86) hx hb (zd_X7_wordIn (86, .iload_n 3, 1, 0, []) (List.mem_of_getElem? (i := 47) rfl)) rfl (j := 2) rfl ?_
            refine zp_load (pc := 87) hx hb (zd_X7_wordIn (87, .aload_n 0, 1, 0, []) (List.mem_of_getElem? (i := 48) rfl)) rfl (j := 4) rfl ?_
            refine zp_getf (n := (q : Int)) (pc := 88) hx hb hE hw (zd_X7_wordIn (88, .getfield 19, 3, 0, []) (List.mem_of_getElem? (i := 49) rfl)) (j := 5) rfl rfl rfl hp c4 ?_
            refine zp_load (pc := 91) hx hb (zd_X7_wordIn (91, .aload_n 0, 1, 0, []) (List.mem_of_getElem? (i := 50) rfl)) rfl (j := 4) rfl ?_
            refine zp_getf (n := (f : Int)) (pc := 92) hx hb hE hw (zd_X7_wordIn (92, .getfield 29, 3, 0, []) (List.mem_of_getElem? (i := 51) rfl)) (j := 4) rfl rfl rfl hp c3 ?_
            refine zp_sub (n := ((q : Int) + (-1) * (f : Int))) (pc := 95) hx hb (zd_X7_wordIn (95, .isub, 1, 0, []) (List.mem_of_getElem? (i := 52) rfl)) (by omega) (zp_r0 (by omega) (by omega)) ?_
            refine zp_icmp (pc := 96) (tgt := 101) hx hb (zd_X7_wordIn (96, .if_icmp .ne 5, 3, 0, []) (List.mem_of_getElem? (i := 53) rfl)) rfl (fun (hc91 : ¬ sm = ((q : Int) + (-1) * (f : Int))) => ?_) (fun (hc91 : ¬ (¬ sm = ((q : Int) + (-1) * (f : Int)))) => ?_)
            · refine zp_iinc (L' := [(2, 0, ((ix : Int) + 1)), (5, 0, rnc89), (4, 0, (k : Int)), (3, 0, sm), (0, 2, (a : Int)), (1, 2, (sx : Int))]) (n := ((ix : Int) + 1)) (pc := 101) hx hb hnL (zd_X7_wordIn (101, .iinc 2 1, 3, 0, []) (List.mem_of_getElem? (i := 56) rfl)) (j := 3) rfl (by omega) (zp_r0 (by omega) (by omega)) rfl rfl ?_
              refine zp_const (pc := 104) hx hb (zd_X7_wordIn (104, .iconst 0, 1, 0, []) (List.mem_of_getElem? (i := 57) rfl)) rfl rfl ?_
              refine zp_store (L' := [(3, 0, 0), (2, 0, ((ix : Int) + 1)), (5, 0, rnc89), (4, 0, (k : Int)), (0, 2, (a : Int)), (1, 2, (sx : Int))]) (pc := 105) hx hb hnL (zd_X7_wordIn (105, .istore_n 3, 1, 0, []) (List.mem_of_getElem? (i := 58) rfl)) rfl rfl rfl ?_
              refine zp_iinc (L' := [(4, 0, ((k : Int) + 1)), (3, 0, 0), (2, 0, ((ix : Int) + 1)), (5, 0, rnc89), (0, 2, (a : Int)), (1, 2, (sx : Int))]) (n := ((k : Int) + 1)) (pc := 106) hx hb hnL (zd_X7_wordIn (106, .iinc 4 1, 3, 0, []) (List.mem_of_getElem? (i := 59) rfl)) (j := 3) rfl (by omega) (zp_r0 (by omega) (by omega)) rfl rfl ?_
              refine zp_goto (tgt := 17) (pc := 109) hx hb (zd_X7_wordIn (109, .goto (-92), 3, 0, []) (List.mem_of_getElem? (i := 60) rfl)) rfl ?_
              refine zp_drop (L' := [(4, 0, ((k + 1 : Nat) : Int)), (3, 0, 0), (2, 0, ((ix + 1 : Nat) : Int)), (0, 2, (a : Int)), (1, 2, (sx : Int))]) (by simp <;> omega) ?_
              have ih9 := ih (k + 1) (by omega) (by omega) (go (fun z => by omega))
              rw [e1, e2] at ih9
              rw [if_pos (by omega), if_pos (by omega)] at ih9
              exact ih9
            · refine zp_load (pc := 99) hx hb (zd_X7_wordIn (99, .iload_n 2, 1, 0, []) (List.mem_of_getElem? (i := 54) rfl)) rfl (j := 3) rfl ?_
              refine zp_iret (pc := 100) (n := (ix : Int)) hx hb hE hQ hU5 rfl (by decide) (zd_X7_wordIn (100, .ireturn, 1, 0, []) (List.mem_of_getElem? (i := 55) rfl)) (j := 0) rfl (zp_o0 (by omega) (by omega) (by omega) (by omega)) ?_
              rw [hps]
              refine ⟨rfl, rfl, ?_⟩
              rw [← hso, if_pos hs1, ← hf, ← hq, ← hm, hg, zs_g_step hk, if_pos ⟨by omega, by rw [← hsm0]; omega⟩, ← hix0]
          · refine zp_load (pc := 55) hx hb (zd_X7_wordIn (55, .iload_n 3, 1, 0, []) (List.mem_of_getElem? (i := 29) rfl)) rfl (j := 2) rfl ?_
            refine zp_const (pc := 56) hx hb (zd_X7_wordIn (56, .iconst (-1), 1, 0, []) (List.mem_of_getElem? (i := 30) rfl)) rfl rfl ?_
            refine zp_icmp (pc := 57) (tgt := 81) hx hb (zd_X7_wordIn (57, .if_icmp .eq 24, 3, 0, []) (List.mem_of_getElem? (i := 31) rfl)) rfl (fun (hc92 : sm = (-1)) => ?_) (fun (hc92 : ¬ (sm = (-1))) => ?_)
            · refine zp_const (pc := 81) hx hb (zd_X7_wordIn (81, .iconst (-1), 1, 0, []) (List.mem_of_getElem? (i := 44) rfl)) rfl rfl ?_
              refine zp_store (L' := [(3, 0, (-1)), (5, 0, rnc89), (4, 0, (k : Int)), (2, 0, (ix : Int)), (0, 2, (a : Int)), (1, 2, (sx : Int))]) (pc := 82) hx hb hnL (zd_X7_wordIn (82, .istore_n 3, 1, 0, []) (List.mem_of_getElem? (i := 45) rfl)) rfl rfl rfl ?_
              refine zp_goto (tgt := 106) (pc := 83) hx hb (zd_X7_wordIn (83, .goto 23, 3, 0, []) (List.mem_of_getElem? (i := 46) rfl)) rfl ?_
              refine zp_iinc (L' := [(4, 0, ((k : Int) + 1)), (3, 0, (-1)), (5, 0, rnc89), (2, 0, (ix : Int)), (0, 2, (a : Int)), (1, 2, (sx : Int))]) (n := ((k : Int) + 1)) (pc := 106) hx hb hnL (zd_X7_wordIn (106, .iinc 4 1, 3, 0, []) (List.mem_of_getElem? (i := 59) rfl)) (j := 2) rfl (by omega) (zp_r0 (by omega) (by omega)) rfl rfl ?_
              refine zp_goto (tgt := 17) (pc := 109) hx hb (zd_X7_wordIn (109, .goto (-92), 3, 0, []) (List.mem_of_getElem? (i := 60) rfl)) rfl ?_
              refine zp_drop (L' := [(4, 0, ((k + 1 : Nat) : Int)), (3, 0, (-1)), (2, 0, (ix : Int)), (0, 2, (a : Int)), (1, 2, (sx : Int))]) (by simp <;> omega) ?_
              have ih9 := ih (k + 1) (by omega) (by omega) (go (fun z => by omega))
              rw [e1, e2] at ih9
              rw [if_neg (by omega), if_neg (by omega), if_neg (by omega)] at ih9
              exact ih9
            · refine zp_load (pc := 60) hx hb (zd_X7_wordIn (60, .aload_n 0, 1, 0, []) (List.mem_of_getElem? (i := 32) rfl)) rfl (j := 4) rfl ?_
              refine zp_load (pc := 61) hx hb (zd_X7_wordIn (61, .aload_n 0, 1, 0, []) (List.mem_of_getElem? (i := 33) rfl)) rfl (j := 4) rfl ?_
              refine zp_getf (n := (f : Int)) (pc := 62) hx hb hE hw (zd_X7_wordIn (62, .getfield 29, 3, 0, []) (List.mem_of_getElem? (i := 34) rfl)) (j := 4) rfl rfl rfl hp c3 ?_
              refine zp_load (pc := 65) hx hb (zd_X7_wordIn (65, .iload_n 3, 1, 0, []) (List.mem_of_getElem? (i := 35) rfl)) rfl (j := 2) rfl ?_
              refine zp_add (n := ((f : Int) + sm)) (pc := 66) hx hb (zd_X7_wordIn (66, .iadd, 1, 0, []) (List.mem_of_getElem? (i := 36) rfl)) (by omega) (zp_r0 (by omega) (by omega)) ?_
              refine zp_call (pc := 67) (how := 0) (idx := 25) (mi := 37) (S := []) hx hb hE hw heff hrm (zX_bya hW) rfl (j := 1) rfl rfl (by decide +kernel) (zd_X7_wordIn (67, .invokevirtual 25, 3, 0, []) (List.mem_of_getElem? (i := 37) rfl)) [(a : Int), ((f : Int) + sm)] rfl ⟨zp_o2 hp, zp_o0 (by omega) (by omega) (by omega) (by omega), trivial⟩ (Nat.le_of_ble_eq_true rfl) trivial (fun al hal rnb93 Pb93 Gb93 hextb93 hfrb93 hokb93 hcsb93 hpsib93 => ?_)
              obtain rfl := List.mem_singleton.mp hal
              have hrb93 := zp_int (hokb93 _ rfl).1
              obtain ⟨hPeb93, hGeb93, htb93⟩ := hpsib93
              rw [hPeb93, hGeb93]
              have hvb93 : rnb93 = zBc B ln (f + sm.toNat) := by
                have h9 := htb93 (f + sm.toNat) (show ((f : Int) + sm) = ((f + sm.toNat : Nat) : Int) by omega)
                unfold zBc
                by_cases z : f + sm.toNat < ln
                · rw [if_pos z]
                  refine (h9.1 (show ((f + sm.toNat : Nat) : Int) < zp_n u.2.1 a 1 by rw [t1]; omega)).trans ?_
                  show zp_n u.2.1 (zp_n u.2.1 a 0).toNat (2000 + (f + sm.toNat)) = _
                  rw [t0, Int.toNat_natCast]
                  exact t3 _
                · rw [if_neg z]
                  exact h9.2 (show ¬ ((f + sm.toNat : Nat) : Int) < zp_n u.2.1 a 1 by rw [t1]; omega)
              refine zp_load (pc := 70) hx hb (zd_X7_wordIn (70, .iload 5, 2, 0, []) (List.mem_of_getElem? (i := 38) rfl)) rfl (j := 0) rfl ?_
              refine zp_icmp (pc := 72) (tgt := 81) hx hb (zd_X7_wordIn (72, .if_icmp .ne 9, 3, 0, []) (List.mem_of_getElem? (i := 39) rfl)) rfl (fun (hc94 : ¬ rnb93 = rnc89) => ?_) (fun (hc94 : ¬ (¬ rnb93 = rnc89)) => ?_)
              · refine zp_const (pc := 81) hx hb (zd_X7_wordIn (81, .iconst (-1), 1, 0, []) (List.mem_of_getElem? (i := 44) rfl)) rfl rfl ?_
                refine zp_store (L' := [(3, 0, (-1)), (5, 0, rnc89), (4, 0, (k : Int)), (2, 0, (ix : Int)), (0, 2, (a : Int)), (1, 2, (sx : Int))]) (pc := 82) hx hb hnL (zd_X7_wordIn (82, .istore_n 3, 1, 0, []) (List.mem_of_getElem? (i := 45) rfl)) rfl rfl rfl ?_
                refine zp_goto (tgt := 106) (pc := 83) hx hb (zd_X7_wordIn (83, .goto 23, 3, 0, []) (List.mem_of_getElem? (i := 46) rfl)) rfl ?_
                refine zp_iinc (L' := [(4, 0, ((k : Int) + 1)), (3, 0, (-1)), (5, 0, rnc89), (2, 0, (ix : Int)), (0, 2, (a : Int)), (1, 2, (sx : Int))]) (n := ((k : Int) + 1)) (pc := 106) hx hb hnL (zd_X7_wordIn (106, .iinc 4 1, 3, 0, []) (List.mem_of_getElem? (i := 59) rfl)) (j := 2) rfl (by omega) (zp_r0 (by omega) (by omega)) rfl rfl ?_
                refine zp_goto (tgt := 17) (pc := 109) hx hb (zd_X7_wordIn (109, .goto (-92), 3, 0, []) (List.mem_of_getElem? (i := 60) rfl)) rfl ?_
                refine zp_drop (L' := [(4, 0, ((k + 1 : Nat) : Int)), (3, 0, (-1)), (2, 0, (ix : Int)), (0, 2, (a : Int)), (1, 2, (sx : Int))]) (by simp <;> omega) ?_
                have ih9 := ih (k + 1) (by omega) (by omega) (go (fun z => by omega))
                rw [e1, e2] at ih9
                rw [if_neg (by omega), if_neg (by omega), if_neg (by omega)] at ih9
                exact ih9
              · refine zp_load (pc := 75) hx hb (zd_X7_wordIn (75, .iload_n 3, 1, 0, []) (List.mem_of_getElem? (i := 40) rfl)) rfl (j := 2) rfl ?_
                refine zp_const (pc := 76) hx hb (zd_X7_wordIn (76, .iconst 1, 1, 0, []) (List.mem_of_getElem? (i := 41) rfl)) rfl rfl ?_
                refine zp_add (n := (sm + 1)) (pc := 77) hx hb (zd_X7_wordIn (77, .iadd, 1, 0, []) (List.mem_of_getElem? (i := 42) rfl)) (by omega) (zp_r0 (by omega) (by omega)) ?_
                refine zp_goto (tgt := 82) (pc := 78) hx hb (zd_X7_wordIn (78, .goto 4, 3, 0, []) (List.mem_of_getElem? (i := 43) rfl)) rfl ?_
                refine zp_store (L' := [(3, 0, (sm + 1)), (5, 0, rnc89), (4, 0, (k : Int)), (2, 0, (ix : Int)), (0, 2, (a : Int)), (1, 2, (sx : Int))]) (pc := 82) hx hb hnL (zd_X7_wordIn (82, .istore_n 3, 1, 0, []) (List.mem_of_getElem? (i := 45) rfl)) rfl rfl rfl ?_
                refine zp_goto (tgt := 106) (pc := 83) hx hb (zd_X7_wordIn (83, .goto 23, 3, 0, []) (List.mem_of_getElem? (i := 46) rfl)) rfl ?_
                refine zp_iinc (L' := [(4, 0, ((k : Int) + 1)), (3, 0, (sm + 1)), (5, 0, rnc89), (2, 0, (ix : Int)), (0, 2, (a : Int)), (1, 2, (sx : Int))]) (n := ((k : Int) + 1)) (pc := 106) hx hb hnL (zd_X7_wordIn (106, .iinc 4 1, 3, 0, []) (List.mem_of_getElem? (i := 59) rfl)) (j := 2) rfl (by omega) (zp_r0 (by omega) (by omega)) rfl rfl ?_
                refine zp_goto (tgt := 17) (pc := 109) hx hb (zd_X7_wordIn (109, .goto (-92), 3, 0, []) (List.mem_of_getElem? (i := 60) rfl)) rfl ?_
                refine zp_drop (L' := [(4, 0, ((k + 1 : Nat) : Int)), (3, 0, (sm + 1)), (2, 0, (ix : Int)), (0, 2, (a : Int)), (1, 2, (sx : Int))]) (by simp <;> omega) ?_
                have ih9 := ih (k + 1) (by omega) (by omega) (go (fun z => by omega))
                rw [e1, e2] at ih9
                rw [if_neg (by omega), if_pos ⟨by omega, by omega⟩, if_neg (by omega)] at ih9
                exact ih9
  refine zp_load (pc := 0) hx hb (zd_X7_wordIn (0, .aload_n 0, 1, 0, []) (List.mem_of_getElem? (i := 0) rfl)) rfl (j := 0) rfl ?_
  refine zp_getf (n := (so : Int)) (pc := 1) hx hb hE hw (zd_X7_wordIn (1, .getfield 35, 3, 0, []) (List.mem_of_getElem? (i := 1) rfl)) (j := 3) rfl rfl rfl hp c2 ?_
  refine zp_const (pc := 4) hx hb (zd_X7_wordIn (4, .iconst 1, 1, 0, []) (List.mem_of_getElem? (i := 2) rfl)) rfl rfl ?_
  refine zp_icmp (pc := 5) (tgt := 10) hx hb (zd_X7_wordIn (5, .if_icmp .eq 5, 3, 0, []) (List.mem_of_getElem? (i := 3) rfl)) rfl (fun (hc95 : (so : Int) = 1) => ?_) (fun (hc95 : ¬ ((so : Int) = 1)) => ?_)
  · refine zp_const (pc := 10) hx hb (zd_X7_wordIn (10, .iconst 0, 1, 0, []) (List.mem_of_getElem? (i := 6) rfl)) rfl rfl ?_
    refine zp_store (L' := [(2, 0, 0), (0, 2, (a : Int)), (1, 2, (sx : Int))]) (pc := 11) hx hb hnL (zd_X7_wordIn (11, .istore_n 2, 1, 0, []) (List.mem_of_getElem? (i := 7) rfl)) rfl rfl rfl ?_
    refine zp_const (pc := 12) hx hb (zd_X7_wordIn (12, .iconst 0, 1, 0, []) (List.mem_of_getElem? (i := 8) rfl)) rfl rfl ?_
    refine zp_store (L' := [(3, 0, 0), (2, 0, 0), (0, 2, (a : Int)), (1, 2, (sx : Int))]) (pc := 13) hx hb hnL (zd_X7_wordIn (13, .istore_n 3, 1, 0, []) (List.mem_of_getElem? (i := 9) rfl)) rfl rfl rfl ?_
    refine zp_const (pc := 14) hx hb (zd_X7_wordIn (14, .iconst 0, 1, 0, []) (List.mem_of_getElem? (i := 10) rfl)) rfl rfl ?_
    refine zp_store (L' := [(4, 0, 0), (3, 0, 0), (2, 0, 0), (0, 2, (a : Int)), (1, 2, (sx : Int))]) (pc := 15) hx hb hnL (zd_X7_wordIn (15, .istore 4, 2, 0, []) (List.mem_of_getElem? (i := 11) rfl)) rfl rfl rfl ?_
    have h9 := loop (by omega) 4 0 (by omega) (by omega) rfl
    exact h9
  · refine zp_const (pc := 8) hx hb (zd_X7_wordIn (8, .iconst (-1), 1, 0, []) (List.mem_of_getElem? (i := 4) rfl)) rfl rfl ?_
    refine zp_iret (pc := 9) (n := (-1)) hx hb hE hQ hU5 rfl (by decide) (zd_X7_wordIn (9, .ireturn, 1, 0, []) (List.mem_of_getElem? (i := 5) rfl)) (j := 0) rfl (zp_o0 (by omega) (by omega) (by omega) (by omega)) ?_
    rw [hps]
    refine ⟨rfl, rfl, ?_⟩
    rw [← hso, if_neg (by omega)]
noncomputable def zK_vwti : zk_K := (zt_mn 46, prog_9_method_10_code, 6, (Option.some Jvm.ClassFile.FieldType.int), 1, 7, [(2, 7, 0, 0), (2, 204, 0, 0)], [(some (0, 0, (-1), 400), [])], [], (9, 221, 0, 0))
noncomputable def zφ_vwti (b : Nat) (B : Nat → Int) (ln tk : Nat) : (Nat → Option Nat) → (Nat → Nat → Int) → List Int → Prop := fun P G ps => zTt (zp_0 ps) b G B ln tk
noncomputable def zψ_vwti (b : Nat) (B : Nat → Int) (ln tk : Nat) : (Nat → Option Nat) → (Nat → Nat → Int) → List Int → (Nat → Option Nat) → (Nat → Nat → Int) → Int → Prop := fun P G ps P' G' rn => P' = P ∧ G' = G ∧ rn = if zy_so B ln tk = 1 then zs_g za_ti 5 (zBc B ln) (zy_fr B ln tk) ((zy_to B ln tk - zy_fr B ln tk : Nat) : Int) 0 else -1
theorem zX_vwti {l : Launch} {w : zk_W} (hW : zh_W w) (b : Nat) (B : Nat → Int) (ln tk : Nat) : zk_metX l w zt_dv zt_TB zK_vwti (zp_A (zφ_vwti b B ln tk)) (zp_B (zψ_vwti b B ln tk)) ∧ zk_cok w zt_TB zK_vwti := by
  refine zp_methX (cn := "WoundTown$Tape") zp_lkallT9 hW (pl := 733) rfl (by decide +kernel) (fun p e R s m args below meth c Q u hx hb hE hQ hU5 heff hnL hok hφ => ?_)
  have hw := hW.1
  obtain ⟨p0, p1, hps, k0, k1⟩ := zp_ps2 hok
  obtain ⟨a, rfl, hp⟩ := zp_this k0
  have hrm : zk_Kr (zk_ev (zt_types, zp_lkT9, zt_dv, [], [], zp_lcT9, zK_vwti)) = zk_Kr zK_vwti := rfl
  rw [hps] at hφ ⊢
  show zp_J p l e R s m args below meth c Q w u [] 0 [(0, 2, (a : Int)), (1, 2, p1)] [] u.1 (zp_n u.2.1)
  obtain ⟨sx, rfl, qs⟩ := zp_this k1
  have hT : zTt a b (zp_n u.2.1) B ln tk := hφ
  have hlen := zTt_len hT
  obtain ⟨⟨t0, t1, t2, t3⟩, t5, t6, c2, c3, c4, c5⟩ := hT
  obtain ⟨so, hso⟩ : ∃ x : Nat, x = zy_so B ln tk := ⟨_, rfl⟩
  obtain ⟨f, hf⟩ : ∃ x : Nat, x = zy_fr B ln tk := ⟨_, rfl⟩
  obtain ⟨q, hq⟩ : ∃ x : Nat, x = zy_to B ln tk := ⟨_, rfl⟩
  rw [← hso] at c2
  rw [← hf] at c3 hlen
  rw [← hq] at c4 hlen
  obtain ⟨m9, hm⟩ : ∃ x : Nat, x = q - f := ⟨_, rfl⟩
  have hby : ∀ j, zt_by 4 j = za_ti j := fun j => rfl
  have tail : so = 1 → zs_g za_ti 5 (zBc B ln) f (m9 : Int) 0 = -1 → ∀ (sm ix : Int), zp_J p l e R s m args below meth c Q w u [] 17 [(4, 0, 6), (3, 0, sm), (2, 0, ix), (0, 2, (a : Int)), (1, 2, (sx : Int))] [] u.1 (zp_n u.2.1) := by
    intro hs1 hg sm ix
    refine zp_load (pc := 17) hx hb (zd_X7_wordIn (17, .iload 4, 2, 0, []) (List.mem_of_getElem? (i := 12) rfl)) rfl (j := 0) rfl ?_
    refine zp_load (pc := 19) hx hb (zd_X7_wordIn (19, .aload_n 1, 1, 0, []) (List.mem_of_getElem? (i := 13) rfl)) rfl (j := 4) rfl ?_
    refine zp_callS (pc := 20) (how := 0) (idx := 45) (mi := 47) (S := [(0, 6)]) hx hb hE hw heff hrm (zY_len hW (t := 204) (n := 5) (by decide) rfl (by decide)) rfl (j := 3) rfl rfl (by decide +kernel) (zd_X7_wordIn (20, .invokevirtual 45, 3, 0, []) (List.mem_of_getElem? (i := 14) rfl)) [(sx : Int)] rfl ⟨zp_o2 qs, trivial⟩ (Nat.le_of_ble_eq_true rfl) trivial (fun al hal rnl96 Pl96 Gl96 hextl96 hfrl96 hokl96 hcsl96 hpsil96 => ?_)
    obtain rfl := List.mem_singleton.mp hal
    have hrl96 := zp_int (hokl96 _ rfl).1
    obtain ⟨hPel96, hGel96, htl96⟩ := hpsil96
    rw [hPel96, hGel96]
    obtain rfl : rnl96 = 5 := htl96
    refine zp_icmp (pc := 23) (tgt := 112) hx hb (zd_X7_wordIn (23, .if_icmp .gt 89, 3, 0, []) (List.mem_of_getElem? (i := 15) rfl)) rfl (fun (hc97 : 5 < 6) => ?_) (fun (hc97 : ¬ (5 < 6)) => ?_)
    · refine zp_const (pc := 112) hx hb (zd_X7_wordIn (112, .iconst (-1), 1, 0, []) (List.mem_of_getElem? (i := 61) rfl)) rfl rfl ?_
      refine zp_iret (pc := 113) (n := (-1)) hx hb hE hQ hU5 rfl (by decide) (zd_X7_wordIn (113, .ireturn, 1, 0, []) (List.mem_of_getElem? (i := 62) rfl)) (j := 0) rfl (zp_o0 (by omega) (by omega) (by omega) (by omega)) ?_
      rw [hps]
      refine ⟨rfl, rfl, ?_⟩
      rw [← hso, if_pos hs1, ← hf, ← hq, ← hm]
      exact hg.symm
    · exfalso
      omega
  have loop : so = 1 → ∀ (n9 k : Nat), 6 - k < n9 → k ≤ 5 → zs_g za_ti 5 (zBc B ln) f (m9 : Int) 0 = zs_g za_ti 5 (zBc B ln) f (m9 : Int) k → zp_J p l e R s m args below meth c Q w u [] 17 [(4, 0, (k : Int)), (3, 0, (zs_sm za_ti (zBc B ln) f k)), (2, 0, ((zs_ix za_ti k : Nat) : Int)), (0, 2, (a : Int)), (1, 2, (sx : Int))] [] u.1 (zp_n u.2.1) := by
    intro hs1 n9
    induction n9 with
    | zero => intro k h; exact absurd h (Nat.not_lt_zero _)
    | succ n9 ih =>
      intro k hn hk hg
      have hsm := zs_sm_le (S := za_ti) (B := zBc B ln) (st := f) k
      have hix := zs_ix_le (S := za_ti) k
      obtain ⟨sm, hsm0⟩ : ∃ x : Int, x = zs_sm za_ti (zBc B ln) f k := ⟨_, rfl⟩
      obtain ⟨ix, hix0⟩ : ∃ x : Nat, x = zs_ix za_ti k := ⟨_, rfl⟩
      rw [← hsm0, ← hix0]
      rw [← hsm0] at hsm
      rw [← hix0] at hix
      have e1 : zs_sm za_ti (zBc B ln) f (k + 1) = if za_ti k = 32 then 0 else if sm ≠ -1 ∧ zBc B ln (f + sm.toNat) = za_ti k then sm + 1 else -1 := by
        rw [hsm0]
        rfl
      have e2 : zs_ix za_ti (k + 1) = if za_ti k = 32 then ix + 1 else ix := by
        rw [hix0]
        rfl
      have go : ¬ ((k = 5 ∨ za_ti k = 32) ∧ sm = (m9 : Int)) → zs_g za_ti 5 (zBc B ln) f (m9 : Int) 0 = zs_g za_ti 5 (zBc B ln) f (m9 : Int) (k + 1) := fun z => by
        rw [hg, zs_g_step hk, if_neg (by rw [← hsm0]; exact z)]
      refine zp_load (pc := 17) hx hb (zd_X7_wordIn (17, .iload 4, 2, 0, []) (List.mem_of_getElem? (i := 12) rfl)) rfl (j := 0) rfl ?_
      refine zp_load (pc := 19) hx hb (zd_X7_wordIn (19, .aload_n 1, 1, 0, []) (List.mem_of_getElem? (i := 13) rfl)) rfl (j := 4) rfl ?_
      refine zp_callS (pc := 20) (how := 0) (idx := 45) (mi := 47) (S := [(0, (k : Int))]) hx hb hE hw heff hrm (zY_len hW (t := 204) (n := 5) (by decide) rfl (by decide)) rfl (j := 3) rfl rfl (by decide +kernel) (zd_X7_wordIn (20, .invokevirtual 45, 3, 0, []) (List.mem_of_getElem? (i := 14) rfl)) [(sx : Int)] rfl ⟨zp_o2 qs, trivial⟩ (Nat.le_of_ble_eq_true rfl) trivial (fun al hal rnl98 Pl98 Gl98 hextl98 hfrl98 hokl98 hcsl98 hpsil98 => ?_)
      obtain rfl := List.mem_singleton.mp hal
      have hrl98 := zp_int (hokl98 _ rfl).1
      obtain ⟨hPel98, hGel98, htl98⟩ := hpsil98
      rw [hPel98, hGel98]
      obtain rfl : rnl98 = 5 := htl98
      refine zp_icmp (pc := 23) (tgt := 112) hx hb (zd_X7_wordIn (23, .if_icmp .gt 89, 3, 0, []) (List.mem_of_getElem? (i := 15) rfl)) rfl (fun (hc99 : 5 < (k : Int)) => ?_) (fun (hc99 : ¬ (5 < (k : Int))) => ?_)
      · refine zp_const (pc := 112) hx hb (zd_X7_wordIn (112, .iconst (-1), 1, 0, []) (List.mem_of_getElem? (i := 61) rfl)) rfl rfl ?_
        exfalso
        omega
      · refine zp_load (pc := 26) hx hb (zd_X7_wordIn (26, .iload 4, 2, 0, []) (List.mem_of_getElem? (i := 16) rfl)) rfl (j := 0) rfl ?_
        refine zp_load (pc := 28) hx hb (zd_X7_wordIn (28, .aload_n 1, 1, 0, []) (List.mem_of_getElem? (i := 17) rfl)) rfl (j := 4) rfl ?_
        refine zp_callS (pc := 29) (how := 0) (idx := 45) (mi := 47) (S := [(0, (k : Int))]) hx hb hE hw heff hrm (zY_len hW (t := 204) (n := 5) (by decide) rfl (by decide)) rfl (j := 3) rfl rfl (by decide +kernel) (zd_X7_wordIn (29, .invokevirtual 45, 3, 0, []) (List.mem_of_getElem? (i := 18) rfl)) [(sx : Int)] rfl ⟨zp_o2 qs, trivial⟩ (Nat.le_of_ble_eq_true rfl) trivial (fun al hal rnl100 Pl100 Gl100 hextl100 hfrl100 hokl100 hcsl100 hpsil100 => ?_)
        obtain rfl := List.mem_singleton.mp hal
        have hrl100 := zp_int (hokl100 _ rfl).1
        obtain ⟨hPel100, hGel100, htl100⟩ := hpsil100
        rw [hPel100, hGel100]
        obtain rfl : rnl100 = 5 := htl100
        refine zp_icmp (pc := 32) (tgt := 44) hx hb (zd_X7_wordIn (32, .if_icmp .ge 12, 3, 0, []) (List.mem_of_getElem? (i := 19) rfl)) rfl (fun (hc101 : 5 ≤ (k : Int)) => ?_) (fun (hc101 : ¬ (5 ≤ (k : Int))) => ?_)
        · refine zp_const (pc := 44) hx hb (zd_X7_wordIn (44, .bipush 32, 2, 0, []) (List.mem_of_getElem? (i := 24) rfl)) rfl rfl ?_
          refine zp_store (L' := [(5, 0, 32), (4, 0, (k : Int)), (3, 0, sm), (2, 0, (ix : Int)), (0, 2, (a : Int)), (1, 2, (sx : Int))]) (pc := 46) hx hb hnL (zd_X7_wordIn (46, .istore 5, 2, 0, []) (List.mem_of_getElem? (i := 25) rfl)) rfl rfl rfl ?_
          refine zp_load (pc := 48) hx hb (zd_X7_wordIn (48, .iload 5, 2, 0, []) (List.mem_of_getElem? (i := 26) rfl)) rfl (j := 0) rfl ?_
          refine zp_const (pc := 50) hx hb (zd_X7_wordIn (50, .bipush 32, 2, 0, []) (List.mem_of_getElem? (i := 27) rfl)) rfl rfl ?_
          refine zp_icmp (pc := 52) (tgt := 86) hx hb (zd_X7_wordIn (52, .if_icmp .eq 34, 3, 0, []) (List.mem_of_getElem? (i := 28) rfl)) rfl (fun (hc102 : 32 = 32) => ?_) (fun (hc102 : ¬ (32 = 32)) => ?_)
          · refine zp_load (pc := 86) hx hb (zd_X7_wordIn (86, .iload_n 3, 1, 0, []) (List.mem_of_getElem? (i := 47) rfl)) rfl (j := 2) rfl ?_
            refine zp_load (pc := 87) hx hb (zd_X7_wordIn (87, .aload_n 0, 1, 0, []) (List.mem_of_getElem? (i := 48) rfl)) rfl (j := 4) rfl ?_
            refine zp_getf (n := (q : Int)) (pc := 88) hx hb hE hw (zd_X7_wordIn (88, .getfield 19, 3, 0, []) (List.mem_of_getElem? (i := 49) rfl)) (j := 5) rfl rfl rfl hp c4 ?_
            refine zp_load (pc := 91) hx hb (zd_X7_wordIn (91, .aload_n 0, 1, 0, []) (List.mem_of_getElem? (i := 50) rfl)) rfl (j := 4) rfl ?_
            refine zp_getf (n := (f : Int)) (pc := 92) hx hb hE hw (zd_X7_wordIn (92, .getfield 29, 3, 0, []) (List.mem_of_getElem? (i := 51) rfl)) (j := 4) rfl rfl rfl hp c3 ?_
            refine zp_sub (n := ((q : Int) + (-1) * (f : Int))) (pc := 95) hx hb (zd_X7_wordIn (95, .isub, 1, 0, []) (List.mem_of_getElem? (i := 52) rfl)) (by omega) (zp_r0 (by omega) (by omega)) ?_
            refine zp_icmp (pc := 96) (tgt := 101) hx hb (zd_X7_wordIn (96, .if_icmp .ne 5, 3, 0, []) (List.mem_of_getElem? (i := 53) rfl)) rfl (fun (hc103 : ¬ sm = ((q : Int) + (-1) * (f : Int))) => ?_) (fun (hc103 : ¬ (¬ sm = ((q : Int) + (-1) * (f : Int)))) => ?_)
            · refine zp_iinc (L' := [(2, 0, ((ix : Int) + 1)), (5, 0, 32), (4, 0, (k : Int)), (3, 0, sm), (0, 2, (a : Int)), (1, 2, (sx : Int))]) (n := ((ix : Int) + 1)) (pc := 101) hx hb hnL (zd_X7_wordIn (101, .iinc 2 1, 3, 0, []) (List.mem_of_getElem? (i := 56) rfl)) (j := 3) rfl (by omega) (zp_r0 (by omega) (by omega)) rfl rfl ?_
              refine zp_const (pc := 104) hx hb (zd_X7_wordIn (104, .iconst 0, 1, 0, []) (List.mem_of_getElem? (i := 57) rfl)) rfl rfl ?_
              refine zp_store (L' := [(3, 0, 0), (2, 0, ((ix : Int) + 1)), (5, 0, 32), (4, 0, (k : Int)), (0, 2, (a : Int)), (1, 2, (sx : Int))]) (pc := 105) hx hb hnL (zd_X7_wordIn (105, .istore_n 3, 1, 0, []) (List.mem_of_getElem? (i := 58) rfl)) rfl rfl rfl ?_
              refine zp_iinc (L' := [(4, 0, ((k : Int) + 1)), (3, 0, 0), (2, 0, ((ix : Int) + 1)), (5, 0, 32), (0, 2, (a : Int)), (1, 2, (sx : Int))]) (n := ((k : Int) + 1)) (pc := 106) hx hb hnL (zd_X7_wordIn (106, .iinc 4 1, 3, 0, []) (List.mem_of_getElem? (i := 59) rfl)) (j := 3) rfl (by omega) (zp_r0 (by omega) (by omega)) rfl rfl ?_
              refine zp_goto (tgt := 17) (pc := 109) hx hb (zd_X7_wordIn (109, .goto (-92), 3, 0, []) (List.mem_of_getElem? (i := 60) rfl)) rfl ?_
              refine zp_drop (L' := [(4, 0, 6), (3, 0, 0), (2, 0, ((ix : Int) + 1)), (0, 2, (a : Int)), (1, 2, (sx : Int))]) (by simp <;> omega) ?_
              have hkn : k = 5 := by omega
              exact tail hs1 ((go (fun z => by omega)).trans (zs_g_end (by omega))) _ _
            · refine zp_load (pc := 99) hx hb (zd_X7_wordIn (99, .iload_n 2, 1, 0, []) (List.mem_of_getElem? (i := 54) rfl)) rfl (j := 3) rfl ?_
              refine zp_iret (pc := 100) (n := (ix : Int)) hx hb hE hQ hU5 rfl (by decide) (zd_X7_wordIn (100, .ireturn, 1, 0, []) (List.mem_of_getElem? (i := 55) rfl)) (j := 0) rfl (zp_o0 (by omega) (by omega) (by omega) (by omega)) ?_
              rw [hps]
              refine ⟨rfl, rfl, ?_⟩
              rw [← hso, if_pos hs1, ← hf, ← hq, ← hm, hg, zs_g_step hk, if_pos ⟨by omega, by rw [← hsm0]; omega⟩, ← hix0]
          · exfalso
            omega
        · refine zp_load (pc := 35) hx hb (zd_X7_wordIn (35, .aload_n 1, 1, 0, []) (List.mem_of_getElem? (i := 20) rfl)) rfl (j := 4) rfl ?_
          refine zp_load (pc := 36) hx hb (zd_X7_wordIn (36, .iload 4, 2, 0, []) (List.mem_of_getElem? (i := 21) rfl)) rfl (j := 0) rfl ?_
          refine zp_callS (pc := 38) (how := 0) (idx := 50) (mi := 49) (S := []) hx hb hE hw heff hrm (zY_chr hW (t := 204) (n := 5) (by decide) rfl (by decide)) rfl (j := 4) rfl rfl (by decide +kernel) (zd_X7_wordIn (38, .invokevirtual 50, 3, 0, []) (List.mem_of_getElem? (i := 22) rfl)) [(sx : Int), (k : Int)] rfl ⟨zp_o2 qs, zp_o0 (by omega) (by omega) (by omega) (by omega), trivial⟩ (Nat.le_of_ble_eq_true rfl) trivial (fun al hal rnc104 Pc104 Gc104 hextc104 hfrc104 hokc104 hcsc104 hpsic104 => ?_)
          obtain rfl := List.mem_singleton.mp hal
          have hrc104 := zp_int (hokc104 _ rfl).1
          obtain ⟨hPec104, hGec104, htc104⟩ := hpsic104
          rw [hPec104, hGec104]
          have hcc104 : rnc104 = za_ti k := by
            refine htc104.trans ?_
            show zt_by (204 - 200) ((k : Int)).toNat = _
            rw [Int.toNat_natCast]
            exact hby k
          refine zp_goto (tgt := 46) (pc := 41) hx hb (zd_X7_wordIn (41, .goto 5, 3, 0, []) (List.mem_of_getElem? (i := 23) rfl)) rfl ?_
          refine zp_store (L' := [(5, 0, rnc104), (4, 0, (k : Int)), (3, 0, sm), (2, 0, (ix : Int)), (0, 2, (a : Int)), (1, 2, (sx : Int))]) (pc := 46) hx hb hnL (zd_X7_wordIn (46, .istore 5, 2, 0, []) (List.mem_of_getElem? (i := 25) rfl)) rfl rfl rfl ?_
          refine zp_load (pc := 48) hx hb (zd_X7_wordIn (48, .iload 5, 2, 0, []) (List.mem_of_getElem? (i := 26) rfl)) rfl (j := 0) rfl ?_
          refine zp_const (pc := 50) hx hb (zd_X7_wordIn (50, .bipush 32, 2, 0, []) (List.mem_of_getElem? (i := 27) rfl)) rfl rfl ?_
          refine zp_icmp (pc := 52) (tgt := 86) hx hb (zd_X7_wordIn (52, .if_icmp .eq 34, 3, 0, []) (List.mem_of_getElem? (i := 28) rfl)) rfl (fun (hc105 : rnc104 = 32) => ?_) (fun (hc105 : ¬ (rnc104 = 32)) => ?_)
          · refine zp_load (pc := 86) hx hb (zd_X7_wordIn (86, .iload_n 3, 1, 0, []) (List.mem_of_getElem? (i := 47) rfl)) rfl (j := 2) rfl ?_
            refine zp_load (pc := 87) hx hb (zd_X7_wordIn (87, .aload_n 0, 1, 0, []) (List.mem_of_getElem? (i := 48) rfl)) rfl (j := 4) rfl ?_
            refine zp_getf (n := (q : Int)) (pc := 88) hx hb hE hw (zd_X7_wordIn (88, .getfield 19, 3, 0, []) (List.mem_of_getElem? (i := 49) rfl)) (j := 5) rfl rfl rfl hp c4 ?_
            refine zp_load (pc := 91) hx hb (zd_X7_wordIn (91, .aload_n 0, 1, 0, []) (List.mem_of_getElem? (i := 50) rfl)) rfl (j := 4) rfl ?_
            refine zp_getf (n := (f : Int)) (pc := 92) hx hb hE hw (zd_X7_wordIn (92, .getfield 29, 3, 0, []) (List.mem_of_getElem? (i := 51) rfl)) (j := 4) rfl rfl rfl hp c3 ?_
            refine zp_sub (n := ((q : Int) + (-1) * (f : Int))) (pc := 95) hx hb (zd_X7_wordIn (95, .isub, 1, 0, []) (List.mem_of_getElem? (i := 52) rfl)) (by omega) (zp_r0 (by omega) (by omega)) ?_
            refine zp_icmp (pc := 96) (tgt := 101) hx hb (zd_X7_wordIn (96, .if_icmp .ne 5, 3, 0, []) (List.mem_of_getElem? (i := 53) rfl)) rfl (fun (hc106 : ¬ sm = ((q : Int) + (-1) * (f : Int))) => ?_) (fun (hc106 : ¬ (¬ sm = ((q : Int) + (-1) * (f : Int)))) => ?_)
            · refine zp_iinc (L' := [(2, 0, ((ix : Int) + 1)), (5, 0, rnc104), (4, 0, (k : Int)), (3, 0, sm), (0, 2, (a : Int)), (1, 2, (sx : Int))]) (n := ((ix : Int) + 1)) (pc := 101) hx hb hnL (zd_X7_wordIn (101, .iinc 2 1, 3, 0, []) (List.mem_of_getElem? (i := 56) rfl)) (j := 3) rfl (by omega) (zp_r0 (by omega) (by omega)) rfl rfl ?_
              refine zp_const (pc := 104) hx hb (zd_X7_wordIn (104, .iconst 0, 1, 0, []) (List.mem_of_getElem? (i := 57) rfl)) rfl rfl ?_
              refine zp_store (L' := [(3, 0, 0), (2, 0, ((ix : Int) + 1)), (5, 0, rnc104), (4, 0, (k : Int)), (0, 2, (a : Int)), (1, 2, (sx : Int))]) (pc := 105) hx hb hnL (zd_X7_wordIn (105, .istore_n 3, 1, 0, []) (List.mem_of_getElem? (i := 58) rfl)) rfl rfl rfl ?_
              refine zp_iinc (L' := [(4, 0, ((k : Int) + 1)), (3, 0, 0), (2, 0, ((ix : Int) + 1)), (5, 0, rnc104), (0, 2, (a : Int)), (1, 2, (sx : Int))]) (n := ((k : Int) + 1)) (pc := 106) hx hb hnL (zd_X7_wordIn (106, .iinc 4 1, 3, 0, []) (List.mem_of_getElem? (i := 59) rfl)) (j := 3) rfl (by omega) (zp_r0 (by omega) (by omega)) rfl rfl ?_
              refine zp_goto (tgt := 17) (pc := 109) hx hb (zd_X7_wordIn (109, .goto (-92), 3, 0, []) (List.mem_of_getElem? (i := 60) rfl)) rfl ?_
              refine zp_drop (L' := [(4, 0, ((k + 1 : Nat) : Int)), (3, 0, 0), (2, 0, ((ix + 1 : Nat) : Int)), (0, 2, (a : Int)), (1, 2, (sx : Int))]) (by simp <;> omega) ?_
              have ih9 := ih (k + 1) (by omega) (by omega) (go (fun z => by omega))
              rw [e1, e2] at ih9
              rw [if_pos (by omega), if_pos (by omega)] at ih9
              exact ih9
            · refine zp_load (pc := 99) hx hb (zd_X7_wordIn (99, .iload_n 2, 1, 0, []) (List.mem_of_getElem? (i := 54) rfl)) rfl (j := 3) rfl ?_
              refine zp_iret (pc := 100) (n := (ix : Int)) hx hb hE hQ hU5 rfl (by decide) (zd_X7_wordIn (100, .ireturn, 1, 0, []) (List.mem_of_getElem? (i := 55) rfl)) (j := 0) rfl (zp_o0 (by omega) (by omega) (by omega) (by omega)) ?_
              rw [hps]
              refine ⟨rfl, rfl, ?_⟩
              rw [← hso, if_pos hs1, ← hf, ← hq, ← hm, hg, zs_g_step hk, if_pos ⟨by omega, by rw [← hsm0]; omega⟩, ← hix0]
          · refine zp_load (pc := 55) hx hb (zd_X7_wordIn (55, .iload_n 3, 1, 0, []) (List.mem_of_getElem? (i := 29) rfl)) rfl (j := 2) rfl ?_
            refine zp_const (pc := 56) hx hb (zd_X7_wordIn (56, .iconst (-1), 1, 0, []) (List.mem_of_getElem? (i := 30) rfl)) rfl rfl ?_
            refine zp_icmp (pc := 57) (tgt := 81) hx hb (zd_X7_wordIn (57, .if_icmp .eq 24, 3, 0, []) (List.mem_of_getElem? (i := 31) rfl)) rfl (fun (hc107 : sm = (-1)) => ?_) (fun (hc107 : ¬ (sm = (-1))) => ?_)
            · refine zp_const (pc := 81) hx hb (zd_X7_wordIn (81, .iconst (-1), 1, 0, []) (List.mem_of_getElem? (i := 44) rfl)) rfl rfl ?_
              refine zp_store (L' := [(3, 0, (-1)), (5, 0, rnc104), (4, 0, (k : Int)), (2, 0, (ix : Int)), (0, 2, (a : Int)), (1, 2, (sx : Int))]) (pc := 82) hx hb hnL (zd_X7_wordIn (82, .istore_n 3, 1, 0, []) (List.mem_of_getElem? (i := 45) rfl)) rfl rfl rfl ?_
              refine zp_goto (tgt := 106) (pc := 83) hx hb (zd_X7_wordIn (83, .goto 23, 3, 0, []) (List.mem_of_getElem? (i := 46) rfl)) rfl ?_
              refine zp_iinc (L' := [(4, 0, ((k : Int) + 1)), (3, 0, (-1)), (5, 0, rnc104), (2, 0, (ix : Int)), (0, 2, (a : Int)), (1, 2, (sx : Int))]) (n := ((k : Int) + 1)) (pc := 106) hx hb hnL (zd_X7_wordIn (106, .iinc 4 1, 3, 0, []) (List.mem_of_getElem? (i := 59) rfl)) (j := 2) rfl (by omega) (zp_r0 (by omega) (by omega)) rfl rfl ?_
              refine zp_goto (tgt := 17) (pc := 109) hx hb (zd_X7_wordIn (109, .goto (-92), 3, 0, []) (List.mem_of_getElem? (i := 60) rfl)) rfl ?_
              refine zp_drop (L' := [(4, 0, ((k + 1 : Nat) : Int)), (3, 0, (-1)), (2, 0, (ix : Int)), (0, 2, (a : Int)), (1, 2, (sx : Int))]) (by simp <;> omega) ?_
              have ih9 := ih (k + 1) (by omega) (by omega) (go (fun z => by omega))
              rw [e1, e2] at ih9
              rw [if_neg (by omega), if_neg (by omega), if_neg (by omega)] at ih9
              exact ih9
            · refine zp_load (pc := 60) hx hb (zd_X7_wordIn (60, .aload_n 0, 1, 0, []) (List.mem_of_getElem? (i := 32) rfl)) rfl (j := 4) rfl ?_
              refine zp_load (pc := 61) hx hb (zd_X7_wordIn (61, .aload_n 0, 1, 0, []) (List.mem_of_getElem? (i := 33) rfl)) rfl (j := 4) rfl ?_
              refine zp_getf (n := (f : Int)) (pc := 62) hx hb hE hw (zd_X7_wordIn (62, .getfield 29, 3, 0, []) (List.mem_of_getElem? (i := 34) rfl)) (j := 4) rfl rfl rfl hp c3 ?_
              refine zp_load (pc := 65) hx hb (zd_X7_wordIn (65, .iload_n 3, 1, 0, []) (List.mem_of_getElem? (i := 35) rfl)) rfl (j := 2) rfl ?_
              refine zp_add (n := ((f : Int) + sm)) (pc := 66) hx hb (zd_X7_wordIn (66, .iadd, 1, 0, []) (List.mem_of_getElem? (i := 36) rfl)) (by omega) (zp_r0 (by omega) (by omega)) ?_
              refine zp_call (pc := 67) (how := 0) (idx := 25) (mi := 37) (S := []) hx hb hE hw heff hrm (zX_bya hW) rfl (j := 1) rfl rfl (by decide +kernel) (zd_X7_wordIn (67, .invokevirtual 25, 3, 0, []) (List.mem_of_getElem? (i := 37) rfl)) [(a : Int), ((f : Int) + sm)] rfl ⟨zp_o2 hp, zp_o0 (by omega) (by omega) (by omega) (by omega), trivial⟩ (Nat.le_of_ble_eq_true rfl) trivial (fun al hal rnb108 Pb108 Gb108 hextb108 hfrb108 hokb108 hcsb108 hpsib108 => ?_)
              obtain rfl := List.mem_singleton.mp hal
              have hrb108 := zp_int (hokb108 _ rfl).1
              obtain ⟨hPeb108, hGeb108, htb108⟩ := hpsib108
              rw [hPeb108, hGeb108]
              have hvb108 : rnb108 = zBc B ln (f + sm.toNat) := by
                have h9 := htb108 (f + sm.toNat) (show ((f : Int) + sm) = ((f + sm.toNat : Nat) : Int) by omega)
                unfold zBc
                by_cases z : f + sm.toNat < ln
                · rw [if_pos z]
                  refine (h9.1 (show ((f + sm.toNat : Nat) : Int) < zp_n u.2.1 a 1 by rw [t1]; omega)).trans ?_
                  show zp_n u.2.1 (zp_n u.2.1 a 0).toNat (2000 + (f + sm.toNat)) = _
                  rw [t0, Int.toNat_natCast]
                  exact t3 _
                · rw [if_neg z]
                  exact h9.2 (show ¬ ((f + sm.toNat : Nat) : Int) < zp_n u.2.1 a 1 by rw [t1]; omega)
              refine zp_load (pc := 70) hx hb (zd_X7_wordIn (70, .iload 5, 2, 0, []) (List.mem_of_getElem? (i := 38) rfl)) rfl (j := 0) rfl ?_
              refine zp_icmp (pc := 72) (tgt := 81) hx hb (zd_X7_wordIn (72, .if_icmp .ne 9, 3, 0, []) (List.mem_of_getElem? (i := 39) rfl)) rfl (fun (hc109 : ¬ rnb108 = rnc104) => ?_) (fun (hc109 : ¬ (¬ rnb108 = rnc104)) => ?_)
              · refine zp_const (pc := 81) hx hb (zd_X7_wordIn (81, .iconst (-1), 1, 0, []) (List.mem_of_getElem? (i := 44) rfl)) rfl rfl ?_
                refine zp_store (L' := [(3, 0, (-1)), (5, 0, rnc104), (4, 0, (k : Int)), (2, 0, (ix : Int)), (0, 2, (a : Int)), (1, 2, (sx : Int))]) (pc := 82) hx hb hnL (zd_X7_wordIn (82, .istore_n 3, 1, 0, []) (List.mem_of_getElem? (i := 45) rfl)) rfl rfl rfl ?_
                refine zp_goto (tgt := 106) (pc := 83) hx hb (zd_X7_wordIn (83, .goto 23, 3, 0, []) (List.mem_of_getElem? (i := 46) rfl)) rfl ?_
                refine zp_iinc (L' := [(4, 0, ((k : Int) + 1)), (3, 0, (-1)), (5, 0, rnc104), (2, 0, (ix : Int)), (0, 2, (a : Int)), (1, 2, (sx : Int))]) (n := ((k : Int) + 1)) (pc := 106) hx hb hnL (zd_X7_wordIn (106, .iinc 4 1, 3, 0, []) (List.mem_of_getElem? (i := 59) rfl)) (j := 2) rfl (by omega) (zp_r0 (by omega) (by omega)) rfl rfl ?_
                refine zp_goto (tgt := 17) (pc := 109) hx hb (zd_X7_wordIn (109, .goto (-92), 3, 0, []) (List.mem_of_getElem? (i := 60) rfl)) rfl ?_
                refine zp_drop (L' := [(4, 0, ((k + 1 : Nat) : Int)), (3, 0, (-1)), (2, 0, (ix : Int)), (0, 2, (a : Int)), (1, 2, (sx : Int))]) (by simp <;> omega) ?_
                have ih9 := ih (k + 1) (by omega) (by omega) (go (fun z => by omega))
                rw [e1, e2] at ih9
                rw [if_neg (by omega), if_neg (by omega), if_neg (by omega)] at ih9
                exact ih9
              · refine zp_load (pc := 75) hx hb (zd_X7_wordIn (75, .iload_n 3, 1, 0, []) (List.mem_of_getElem? (i := 40) rfl)) rfl (j := 2) rfl ?_
                refine zp_const (pc := 76) hx hb (zd_X7_wordIn (76, .iconst 1, 1, 0, []) (List.mem_of_getElem? (i := 41) rfl)) rfl rfl ?_
                refine zp_add (n := (sm + 1)) (pc := 77) hx hb (zd_X7_wordIn (77, .iadd, 1, 0, []) (List.mem_of_getElem? (i := 42) rfl)) (by omega) (zp_r0 (by omega) (by omega)) ?_
                refine zp_goto (tgt := 82) (pc := 78) hx hb (zd_X7_wordIn (78, .goto 4, 3, 0, []) (List.mem_of_getElem? (i := 43) rfl)) rfl ?_
                refine zp_store (L' := [(3, 0, (sm + 1)), (5, 0, rnc104), (4, 0, (k : Int)), (2, 0, (ix : Int)), (0, 2, (a : Int)), (1, 2, (sx : Int))]) (pc := 82) hx hb hnL (zd_X7_wordIn (82, .istore_n 3, 1, 0, []) (List.mem_of_getElem? (i := 45) rfl)) rfl rfl rfl ?_
                refine zp_goto (tgt := 106) (pc := 83) hx hb (zd_X7_wordIn (83, .goto 23, 3, 0, []) (List.mem_of_getElem? (i := 46) rfl)) rfl ?_
                refine zp_iinc (L' := [(4, 0, ((k : Int) + 1)), (3, 0, (sm + 1)), (5, 0, rnc104), (2, 0, (ix : Int)), (0, 2, (a : Int)), (1, 2, (sx : Int))]) (n := ((k : Int) + 1)) (pc := 106) hx hb hnL (zd_X7_wordIn (106, .iinc 4 1, 3, 0, []) (List.mem_of_getElem? (i := 59) rfl)) (j := 2) rfl (by omega) (zp_r0 (by omega) (by omega)) rfl rfl ?_
                refine zp_goto (tgt := 17) (pc := 109) hx hb (zd_X7_wordIn (109, .goto (-92), 3, 0, []) (List.mem_of_getElem? (i := 60) rfl)) rfl ?_
                refine zp_drop (L' := [(4, 0, ((k + 1 : Nat) : Int)), (3, 0, (sm + 1)), (2, 0, (ix : Int)), (0, 2, (a : Int)), (1, 2, (sx : Int))]) (by simp <;> omega) ?_
                have ih9 := ih (k + 1) (by omega) (by omega) (go (fun z => by omega))
                rw [e1, e2] at ih9
                rw [if_neg (by omega), if_pos ⟨by omega, by omega⟩, if_neg (by omega)] at ih9
                exact ih9
  refine zp_load (pc := 0) hx hb (zd_X7_wordIn (0, .aload_n 0, 1, 0, []) (List.mem_of_getElem? (i := 0) rfl)) rfl (j := 0) rfl ?_
  refine zp_getf (n := (so : Int)) (pc := 1) hx hb hE hw (zd_X7_wordIn (1, .getfield 35, 3, 0, []) (List.mem_of_getElem? (i := 1) rfl)) (j := 3) rfl rfl rfl hp c2 ?_
  refine zp_const (pc := 4) hx hb (zd_X7_wordIn (4, .iconst 1, 1, 0, []) (List.mem_of_getElem? (i := 2) rfl)) rfl rfl ?_
  refine zp_icmp (pc := 5) (tgt := 10) hx hb (zd_X7_wordIn (5, .if_icmp .eq 5, 3, 0, []) (List.mem_of_getElem? (i := 3) rfl)) rfl (fun (hc110 : (so : Int) = 1) => ?_) (fun (hc110 : ¬ ((so : Int) = 1)) => ?_)
  · refine zp_const (pc := 10) hx hb (zd_X7_wordIn (10, .iconst 0, 1, 0, []) (List.mem_of_getElem? (i := 6) rfl)) rfl rfl ?_
    refine zp_store (L' := [(2, 0, 0), (0, 2, (a : Int)), (1, 2, (sx : Int))]) (pc := 11) hx hb hnL (zd_X7_wordIn (11, .istore_n 2, 1, 0, []) (List.mem_of_getElem? (i := 7) rfl)) rfl rfl rfl ?_
    refine zp_const (pc := 12) hx hb (zd_X7_wordIn (12, .iconst 0, 1, 0, []) (List.mem_of_getElem? (i := 8) rfl)) rfl rfl ?_
    refine zp_store (L' := [(3, 0, 0), (2, 0, 0), (0, 2, (a : Int)), (1, 2, (sx : Int))]) (pc := 13) hx hb hnL (zd_X7_wordIn (13, .istore_n 3, 1, 0, []) (List.mem_of_getElem? (i := 9) rfl)) rfl rfl rfl ?_
    refine zp_const (pc := 14) hx hb (zd_X7_wordIn (14, .iconst 0, 1, 0, []) (List.mem_of_getElem? (i := 10) rfl)) rfl rfl ?_
    refine zp_store (L' := [(4, 0, 0), (3, 0, 0), (2, 0, 0), (0, 2, (a : Int)), (1, 2, (sx : Int))]) (pc := 15) hx hb hnL (zd_X7_wordIn (15, .istore 4, 2, 0, []) (List.mem_of_getElem? (i := 11) rfl)) rfl rfl rfl ?_
    have h9 := loop (by omega) 7 0 (by omega) (by omega) rfl
    exact h9
  · refine zp_const (pc := 8) hx hb (zd_X7_wordIn (8, .iconst (-1), 1, 0, []) (List.mem_of_getElem? (i := 4) rfl)) rfl rfl ?_
    refine zp_iret (pc := 9) (n := (-1)) hx hb hE hQ hU5 rfl (by decide) (zd_X7_wordIn (9, .ireturn, 1, 0, []) (List.mem_of_getElem? (i := 5) rfl)) (j := 0) rfl (zp_o0 (by omega) (by omega) (by omega) (by omega)) ?_
    rw [hps]
    refine ⟨rfl, rfl, ?_⟩
    rw [← hso, if_neg (by omega)]
noncomputable def zK_vwif : zk_K := (zt_mn 46, prog_9_method_10_code, 6, (Option.some Jvm.ClassFile.FieldType.int), 1, 7, [(2, 7, 0, 0), (2, 205, 0, 0)], [(some (0, 0, (-1), 400), [])], [], (9, 221, 0, 0))
noncomputable def zφ_vwif (b : Nat) (B : Nat → Int) (ln tk : Nat) : (Nat → Option Nat) → (Nat → Nat → Int) → List Int → Prop := fun P G ps => zTt (zp_0 ps) b G B ln tk
noncomputable def zψ_vwif (b : Nat) (B : Nat → Int) (ln tk : Nat) : (Nat → Option Nat) → (Nat → Nat → Int) → List Int → (Nat → Option Nat) → (Nat → Nat → Int) → Int → Prop := fun P G ps P' G' rn => P' = P ∧ G' = G ∧ rn = if zy_so B ln tk = 1 then zs_g za_if 2 (zBc B ln) (zy_fr B ln tk) ((zy_to B ln tk - zy_fr B ln tk : Nat) : Int) 0 else -1
theorem zX_vwif {l : Launch} {w : zk_W} (hW : zh_W w) (b : Nat) (B : Nat → Int) (ln tk : Nat) : zk_metX l w zt_dv zt_TB zK_vwif (zp_A (zφ_vwif b B ln tk)) (zp_B (zψ_vwif b B ln tk)) ∧ zk_cok w zt_TB zK_vwif := by
  refine zp_methX (cn := "WoundTown$Tape") zp_lkallT9 hW (pl := 733) rfl (by decide +kernel) (fun p e R s m args below meth c Q u hx hb hE hQ hU5 heff hnL hok hφ => ?_)
  have hw := hW.1
  obtain ⟨p0, p1, hps, k0, k1⟩ := zp_ps2 hok
  obtain ⟨a, rfl, hp⟩ := zp_this k0
  have hrm : zk_Kr (zk_ev (zt_types, zp_lkT9, zt_dv, [], [], zp_lcT9, zK_vwif)) = zk_Kr zK_vwif := rfl
  rw [hps] at hφ ⊢
  show zp_J p l e R s m args below meth c Q w u [] 0 [(0, 2, (a : Int)), (1, 2, p1)] [] u.1 (zp_n u.2.1)
  obtain ⟨sx, rfl, qs⟩ := zp_this k1
  have hT : zTt a b (zp_n u.2.1) B ln tk := hφ
  have hlen := zTt_len hT
  obtain ⟨⟨t0, t1, t2, t3⟩, t5, t6, c2, c3, c4, c5⟩ := hT
  obtain ⟨so, hso⟩ : ∃ x : Nat, x = zy_so B ln tk := ⟨_, rfl⟩
  obtain ⟨f, hf⟩ : ∃ x : Nat, x = zy_fr B ln tk := ⟨_, rfl⟩
  obtain ⟨q, hq⟩ : ∃ x : Nat, x = zy_to B ln tk := ⟨_, rfl⟩
  rw [← hso] at c2
  rw [← hf] at c3 hlen
  rw [← hq] at c4 hlen
  obtain ⟨m9, hm⟩ : ∃ x : Nat, x = q - f := ⟨_, rfl⟩
  have hby : ∀ j, zt_by 5 j = za_if j := fun j => rfl
  have tail : so = 1 → zs_g za_if 2 (zBc B ln) f (m9 : Int) 0 = -1 → ∀ (sm ix : Int), zp_J p l e R s m args below meth c Q w u [] 17 [(4, 0, 3), (3, 0, sm), (2, 0, ix), (0, 2, (a : Int)), (1, 2, (sx : Int))] [] u.1 (zp_n u.2.1) := by
    intro hs1 hg sm ix
    refine zp_load (pc := 17) hx hb (zd_X7_wordIn (17, .iload 4, 2, 0, []) (List.mem_of_getElem? (i := 12) rfl)) rfl (j := 0) rfl ?_
    refine zp_load (pc := 19) hx hb (zd_X7_wordIn (19, .aload_n 1, 1, 0, []) (List.mem_of_getElem? (i := 13) rfl)) rfl (j := 4) rfl ?_
    refine zp_callS (pc := 20) (how := 0) (idx := 45) (mi := 47) (S := [(0, 3)]) hx hb hE hw heff hrm (zY_len hW (t := 205) (n := 2) (by decide) rfl (by decide)) rfl (j := 3) rfl rfl (by decide +kernel) (zd_X7_wordIn (20, .invokevirtual 45, 3, 0, []) (List.mem_of_getElem? (i := 14) rfl)) [(sx : Int)] rfl ⟨zp_o2 qs, trivial⟩ (Nat.le_of_ble_eq_true rfl) trivial (fun al hal rnl111 Pl111 Gl111 hextl111 hfrl111 hokl111 hcsl111 hpsil111 => ?_)
    obtain rfl := List.mem_singleton.mp hal
    have hrl111 := zp_int (hokl111 _ rfl).1
    obtain ⟨hPel111, hGel111, htl111⟩ := hpsil111
    rw [hPel111, hGel111]
    obtain rfl : rnl111 = 2 := htl111
    refine zp_icmp (pc := 23) (tgt := 112) hx hb (zd_X7_wordIn (23, .if_icmp .gt 89, 3, 0, []) (List.mem_of_getElem? (i := 15) rfl)) rfl (fun (hc112 : 2 < 3) => ?_) (fun (hc112 : ¬ (2 < 3)) => ?_)
    · refine zp_const (pc := 112) hx hb (zd_X7_wordIn (112, .iconst (-1), 1, 0, []) (List.mem_of_getElem? (i := 61) rfl)) rfl rfl ?_
      refine zp_iret (pc := 113) (n := (-1)) hx hb hE hQ hU5 rfl (by decide) (zd_X7_wordIn (113, .ireturn, 1, 0, []) (List.mem_of_getElem? (i := 62) rfl)) (j := 0) rfl (zp_o0 (by omega) (by omega) (by omega) (by omega)) ?_
      rw [hps]
      refine ⟨rfl, rfl, ?_⟩
      rw [← hso, if_pos hs1, ← hf, ← hq, ← hm]
      exact hg.symm
    · exfalso
      omega
  have loop : so = 1 → ∀ (n9 k : Nat), 3 - k < n9 → k ≤ 2 → zs_g za_if 2 (zBc B ln) f (m9 : Int) 0 = zs_g za_if 2 (zBc B ln) f (m9 : Int) k → zp_J p l e R s m args below meth c Q w u [] 17 [(4, 0, (k : Int)), (3, 0, (zs_sm za_if (zBc B ln) f k)), (2, 0, ((zs_ix za_if k : Nat) : Int)), (0, 2, (a : Int)), (1, 2, (sx : Int))] [] u.1 (zp_n u.2.1) := by
    intro hs1 n9
    induction n9 with
    | zero => intro k h; exact absurd h (Nat.not_lt_zero _)
    | succ n9 ih =>
      intro k hn hk hg
      have hsm := zs_sm_le (S := za_if) (B := zBc B ln) (st := f) k
      have hix := zs_ix_le (S := za_if) k
      obtain ⟨sm, hsm0⟩ : ∃ x : Int, x = zs_sm za_if (zBc B ln) f k := ⟨_, rfl⟩
      obtain ⟨ix, hix0⟩ : ∃ x : Nat, x = zs_ix za_if k := ⟨_, rfl⟩
      rw [← hsm0, ← hix0]
      rw [← hsm0] at hsm
      rw [← hix0] at hix
      have e1 : zs_sm za_if (zBc B ln) f (k + 1) = if za_if k = 32 then 0 else if sm ≠ -1 ∧ zBc B ln (f + sm.toNat) = za_if k then sm + 1 else -1 := by
        rw [hsm0]
        rfl
      have e2 : zs_ix za_if (k + 1) = if za_if k = 32 then ix + 1 else ix := by
        rw [hix0]
        rfl
      have go : ¬ ((k = 2 ∨ za_if k = 32) ∧ sm = (m9 : Int)) → zs_g za_if 2 (zBc B ln) f (m9 : Int) 0 = zs_g za_if 2 (zBc B ln) f (m9 : Int) (k + 1) := fun z => by
        rw [hg, zs_g_step hk, if_neg (by rw [← hsm0]; exact z)]
      refine zp_load (pc := 17) hx hb (zd_X7_wordIn (17, .iload 4, 2, 0, []) (List.mem_of_getElem? (i := 12) rfl)) rfl (j := 0) rfl ?_
      refine zp_load (pc := 19) hx hb (zd_X7_wordIn (19, .aload_n 1, 1, 0, []) (List.mem_of_getElem? (i := 13) rfl)) rfl (j := 4) rfl ?_
      refine zp_callS (pc := 20) (how := 0) (idx := 45) (mi := 47) (S := [(0, (k : Int))]) hx hb hE hw heff hrm (zY_len hW (t := 205) (n := 2) (by decide) rfl (by decide)) rfl (j := 3) rfl rfl (by decide +kernel) (zd_X7_wordIn (20, .invokevirtual 45, 3, 0, []) (List.mem_of_getElem? (i := 14) rfl)) [(sx : Int)] rfl ⟨zp_o2 qs, trivial⟩ (Nat.le_of_ble_eq_true rfl) trivial (fun al hal rnl113 Pl113 Gl113 hextl113 hfrl113 hokl113 hcsl113 hpsil113 => ?_)
      obtain rfl := List.mem_singleton.mp hal
      have hrl113 := zp_int (hokl113 _ rfl).1
      obtain ⟨hPel113, hGel113, htl113⟩ := hpsil113
      rw [hPel113, hGel113]
      obtain rfl : rnl113 = 2 := htl113
      refine zp_icmp (pc := 23) (tgt := 112) hx hb (zd_X7_wordIn (23, .if_icmp .gt 89, 3, 0, []) (List.mem_of_getElem? (i := 15) rfl)) rfl (fun (hc114 : 2 < (k : Int)) => ?_) (fun (hc114 : ¬ (2 < (k : Int))) => ?_)
      · refine zp_const (pc := 112) hx hb (zd_X7_wordIn (112, .iconst (-1), 1, 0, []) (List.mem_of_getElem? (i := 61) rfl)) rfl rfl ?_
        exfalso
        omega
      · refine zp_load (pc := 26) hx hb (zd_X7_wordIn (26, .iload 4, 2, 0, []) (List.mem_of_getElem? (i := 16) rfl)) rfl (j := 0) rfl ?_
        refine zp_load (pc := 28) hx hb (zd_X7_wordIn (28, .aload_n 1, 1, 0, []) (List.mem_of_getElem? (i := 17) rfl)) rfl (j := 4) rfl ?_
        refine zp_callS (pc := 29) (how := 0) (idx := 45) (mi := 47) (S := [(0, (k : Int))]) hx hb hE hw heff hrm (zY_len hW (t := 205) (n := 2) (by decide) rfl (by decide)) rfl (j := 3) rfl rfl (by decide +kernel) (zd_X7_wordIn (29, .invokevirtual 45, 3, 0, []) (List.mem_of_getElem? (i := 18) rfl)) [(sx : Int)] rfl ⟨zp_o2 qs, trivial⟩ (Nat.le_of_ble_eq_true rfl) trivial (fun al hal rnl115 Pl115 Gl115 hextl115 hfrl115 hokl115 hcsl115 hpsil115 => ?_)
        obtain rfl := List.mem_singleton.mp hal
        have hrl115 := zp_int (hokl115 _ rfl).1
        obtain ⟨hPel115, hGel115, htl115⟩ := hpsil115
        rw [hPel115, hGel115]
        obtain rfl : rnl115 = 2 := htl115
        refine zp_icmp (pc := 32) (tgt := 44) hx hb (zd_X7_wordIn (32, .if_icmp .ge 12, 3, 0, []) (List.mem_of_getElem? (i := 19) rfl)) rfl (fun (hc116 : 2 ≤ (k : Int)) => ?_) (fun (hc116 : ¬ (2 ≤ (k : Int))) => ?_)
        · refine zp_const (pc := 44) hx hb (zd_X7_wordIn (44, .bipush 32, 2, 0, []) (List.mem_of_getElem? (i := 24) rfl)) rfl rfl ?_
          refine zp_store (L' := [(5, 0, 32), (4, 0, (k : Int)), (3, 0, sm), (2, 0, (ix : Int)), (0, 2, (a : Int)), (1, 2, (sx : Int))]) (pc := 46) hx hb hnL (zd_X7_wordIn (46, .istore 5, 2, 0, []) (List.mem_of_getElem? (i := 25) rfl)) rfl rfl rfl ?_
          refine zp_load (pc := 48) hx hb (zd_X7_wordIn (48, .iload 5, 2, 0, []) (List.mem_of_getElem? (i := 26) rfl)) rfl (j := 0) rfl ?_
          refine zp_const (pc := 50) hx hb (zd_X7_wordIn (50, .bipush 32, 2, 0, []) (List.mem_of_getElem? (i := 27) rfl)) rfl rfl ?_
          refine zp_icmp (pc := 52) (tgt := 86) hx hb (zd_X7_wordIn (52, .if_icmp .eq 34, 3, 0, []) (List.mem_of_getElem? (i := 28) rfl)) rfl (fun (hc117 : 32 = 32) => ?_) (fun (hc117 : ¬ (32 = 32)) => ?_)
          · refine zp_load (pc := 86) hx hb (zd_X7_wordIn (86, .iload_n 3, 1, 0, []) (List.mem_of_getElem? (i := 47) rfl)) rfl (j := 2) rfl ?_
            refine zp_load (pc := 87) hx hb (zd_X7_wordIn (87, .aload_n 0, 1, 0, []) (List.mem_of_getElem? (i := 48) rfl)) rfl (j := 4) rfl ?_
            refine zp_getf (n := (q : Int)) (pc := 88) hx hb hE hw (zd_X7_wordIn (88, .getfield 19, 3, 0, []) (List.mem_of_getElem? (i := 49) rfl)) (j := 5) rfl rfl rfl hp c4 ?_
            refine zp_load (pc := 91) hx hb (zd_X7_wordIn (91, .aload_n 0, 1, 0, []) (List.mem_of_getElem? (i := 50) rfl)) rfl (j := 4) rfl ?_
            refine zp_getf (n := (f : Int)) (pc := 92) hx hb hE hw (zd_X7_wordIn (92, .getfield 29, 3, 0, []) (List.mem_of_getElem? (i := 51) rfl)) (j := 4) rfl rfl rfl hp c3 ?_
            refine zp_sub (n := ((q : Int) + (-1) * (f : Int))) (pc := 95) hx hb (zd_X7_wordIn (95, .isub, 1, 0, []) (List.mem_of_getElem? (i := 52) rfl)) (by omega) (zp_r0 (by omega) (by omega)) ?_
            refine zp_icmp (pc := 96) (tgt := 101) hx hb (zd_X7_wordIn (96, .if_icmp .ne 5, 3, 0, []) (List.mem_of_getElem? (i := 53) rfl)) rfl (fun (hc118 : ¬ sm = ((q : Int) + (-1) * (f : Int))) => ?_) (fun (hc118 : ¬ (¬ sm = ((q : Int) + (-1) * (f : Int)))) => ?_)
            · refine zp_iinc (L' := [(2, 0, ((ix : Int) + 1)), (5, 0, 32), (4, 0, (k : Int)), (3, 0, sm), (0, 2, (a : Int)), (1, 2, (sx : Int))]) (n := ((ix : Int) + 1)) (pc := 101) hx hb hnL (zd_X7_wordIn (101, .iinc 2 1, 3, 0, []) (List.mem_of_getElem? (i := 56) rfl)) (j := 3) rfl (by omega) (zp_r0 (by omega) (by omega)) rfl rfl ?_
              refine zp_const (pc := 104) hx hb (zd_X7_wordIn (104, .iconst 0, 1, 0, []) (List.mem_of_getElem? (i := 57) rfl)) rfl rfl ?_
              refine zp_store (L' := [(3, 0, 0), (2, 0, ((ix : Int) + 1)), (5, 0, 32), (4, 0, (k : Int)), (0, 2, (a : Int)), (1, 2, (sx : Int))]) (pc := 105) hx hb hnL (zd_X7_wordIn (105, .istore_n 3, 1, 0, []) (List.mem_of_getElem? (i := 58) rfl)) rfl rfl rfl ?_
              refine zp_iinc (L' := [(4, 0, ((k : Int) + 1)), (3, 0, 0), (2, 0, ((ix : Int) + 1)), (5, 0, 32), (0, 2, (a : Int)), (1, 2, (sx : Int))]) (n := ((k : Int) + 1)) (pc := 106) hx hb hnL (zd_X7_wordIn (106, .iinc 4 1, 3, 0, []) (List.mem_of_getElem? (i := 59) rfl)) (j := 3) rfl (by omega) (zp_r0 (by omega) (by omega)) rfl rfl ?_
              refine zp_goto (tgt := 17) (pc := 109) hx hb (zd_X7_wordIn (109, .goto (-92), 3, 0, []) (List.mem_of_getElem? (i := 60) rfl)) rfl ?_
              refine zp_drop (L' := [(4, 0, 3), (3, 0, 0), (2, 0, ((ix : Int) + 1)), (0, 2, (a : Int)), (1, 2, (sx : Int))]) (by simp <;> omega) ?_
              have hkn : k = 2 := by omega
              exact tail hs1 ((go (fun z => by omega)).trans (zs_g_end (by omega))) _ _
            · refine zp_load (pc := 99) hx hb (zd_X7_wordIn (99, .iload_n 2, 1, 0, []) (List.mem_of_getElem? (i := 54) rfl)) rfl (j := 3) rfl ?_
              refine zp_iret (pc := 100) (n := (ix : Int)) hx hb hE hQ hU5 rfl (by decide) (zd_X7_wordIn (100, .ireturn, 1, 0, []) (List.mem_of_getElem? (i := 55) rfl)) (j := 0) rfl (zp_o0 (by omega) (by omega) (by omega) (by omega)) ?_
              rw [hps]
              refine ⟨rfl, rfl, ?_⟩
              rw [← hso, if_pos hs1, ← hf, ← hq, ← hm, hg, zs_g_step hk, if_pos ⟨by omega, by rw [← hsm0]; omega⟩, ← hix0]
          · exfalso
            omega
        · refine zp_load (pc := 35) hx hb (zd_X7_wordIn (35, .aload_n 1, 1, 0, []) (List.mem_of_getElem? (i := 20) rfl)) rfl (j := 4) rfl ?_
          refine zp_load (pc := 36) hx hb (zd_X7_wordIn (36, .iload 4, 2, 0, []) (List.mem_of_getElem? (i := 21) rfl)) rfl (j := 0) rfl ?_
          refine zp_callS (pc := 38) (how := 0) (idx := 50) (mi := 49) (S := []) hx hb hE hw heff hrm (zY_chr hW (t := 205) (n := 2) (by decide) rfl (by decide)) rfl (j := 4) rfl rfl (by decide +kernel) (zd_X7_wordIn (38, .invokevirtual 50, 3, 0, []) (List.mem_of_getElem? (i := 22) rfl)) [(sx : Int), (k : Int)] rfl ⟨zp_o2 qs, zp_o0 (by omega) (by omega) (by omega) (by omega), trivial⟩ (Nat.le_of_ble_eq_true rfl) trivial (fun al hal rnc119 Pc119 Gc119 hextc119 hfrc119 hokc119 hcsc119 hpsic119 => ?_)
          obtain rfl := List.mem_singleton.mp hal
          have hrc119 := zp_int (hokc119 _ rfl).1
          obtain ⟨hPec119, hGec119, htc119⟩ := hpsic119
          rw [hPec119, hGec119]
          have hcc119 : rnc119 = za_if k := by
            refine htc119.trans ?_
            show zt_by (205 - 200) ((k : Int)).toNat = _
            rw [Int.toNat_natCast]
            exact hby k
          refine zp_goto (tgt := 46) (pc := 41) hx hb (zd_X7_wordIn (41, .goto 5, 3, 0, []) (List.mem_of_getElem? (i := 23) rfl)) rfl ?_
          refine zp_store (L' := [(5, 0, rnc119), (4, 0, (k : Int)), (3, 0, sm), (2, 0, (ix : Int)), (0, 2, (a : Int)), (1, 2, (sx : Int))]) (pc := 46) hx hb hnL (zd_X7_wordIn (46, .istore 5, 2, 0, []) (List.mem_of_getElem? (i := 25) rfl)) rfl rfl rfl ?_
          refine zp_load (pc := 48) hx hb (zd_X7_wordIn (48, .iload 5, 2, 0, []) (List.mem_of_getElem? (i := 26) rfl)) rfl (j := 0) rfl ?_
          refine zp_const (pc := 50) hx hb (zd_X7_wordIn (50, .bipush 32, 2, 0, []) (List.mem_of_getElem? (i := 27) rfl)) rfl rfl ?_
          refine zp_icmp (pc := 52) (tgt := 86) hx hb (zd_X7_wordIn (52, .if_icmp .eq 34, 3, 0, []) (List.mem_of_getElem? (i := 28) rfl)) rfl (fun (hc120 : rnc119 = 32) => ?_) (fun (hc120 : ¬ (rnc119 = 32)) => ?_)
          · refine zp_load (pc := 86) hx hb (zd_X7_wordIn (86, .iload_n 3, 1, 0, []) (List.mem_of_getElem? (i := 47) rfl)) rfl (j := 2) rfl ?_
            refine zp_load (pc := 87) hx hb (zd_X7_wordIn (87, .aload_n 0, 1, 0, []) (List.mem_of_getElem? (i := 48) rfl)) rfl (j := 4) rfl ?_
            refine zp_getf (n := (q : Int)) (pc := 88) hx hb hE hw (zd_X7_wordIn (88, .getfield 19, 3, 0, []) (List.mem_of_getElem? (i := 49) rfl)) (j := 5) rfl rfl rfl hp c4 ?_
            refine zp_load (pc := 91) hx hb (zd_X7_wordIn (91, .aload_n 0, 1, 0, []) (List.mem_of_getElem? (i := 50) rfl)) rfl (j := 4) rfl ?_
            refine zp_getf (n := (f : Int)) (pc := 92) hx hb hE hw (zd_X7_wordIn (92, .getfield 29, 3, 0, []) (List.mem_of_getElem? (i := 51) rfl)) (j := 4) rfl rfl rfl hp c3 ?_
            refine zp_sub (n := ((q : Int) + (-1) * (f : Int))) (pc := 95) hx hb (zd_X7_wordIn (95, .isub, 1, 0, []) (List.mem_of_getElem? (i := 52) rfl)) (by omega) (zp_r0 (by omega) (by omega)) ?_
            refine zp_icmp (pc := 96) (tgt := 101) hx hb (zd_X7_wordIn (96, .if_icmp .ne 5, 3, 0, []) (List.mem_of_getElem? (i := 53) rfl)) rfl (fun (hc121 : ¬ sm = ((q : Int) + (-1) * (f : Int))) => ?_) (fun (hc121 : ¬ (¬ sm = ((q : Int) + (-1) * (f : Int)))) => ?_)
            · refine zp_iinc (L' := [(2, 0, ((ix : Int) + 1)), (5, 0, rnc119), (4, 0, (k : Int)), (3, 0, sm), (0, 2, (a : Int)), (1, 2, (sx : Int))]) (n := ((ix : Int) + 1)) (pc := 101) hx hb hnL (zd_X7_wordIn (101, .iinc 2 1, 3, 0, []) (List.mem_of_getElem? (i := 56) rfl)) (j := 3) rfl (by omega) (zp_r0 (by omega) (by omega)) rfl rfl ?_
              refine zp_const (pc := 104) hx hb (zd_X7_wordIn (104, .iconst 0, 1, 0, []) (List.mem_of_getElem? (i := 57) rfl)) rfl rfl ?_
              refine zp_store (L' := [(3, 0, 0), (2, 0, ((ix : Int) + 1)), (5, 0, rnc119), (4, 0, (k : Int)), (0, 2, (a : Int)), (1, 2, (sx : Int))]) (pc := 105) hx hb hnL (zd_X7_wordIn (105, .istore_n 3, 1, 0, []) (List.mem_of_getElem? (i := 58) rfl)) rfl rfl rfl ?_
              refine zp_iinc (L' := [(4, 0, ((k : Int) + 1)), (3, 0, 0), (2, 0, ((ix : Int) + 1)), (5, 0, rnc119), (0, 2, (a : Int)), (1, 2, (sx : Int))]) (n := ((k : Int) + 1)) (pc := 106) hx hb hnL (zd_X7_wordIn (106, .iinc 4 1, 3, 0, []) (List.mem_of_getElem? (i := 59) rfl)) (j := 3) rfl (by omega) (zp_r0 (by omega) (by omega)) rfl rfl ?_
              refine zp_goto (tgt := 17) (pc := 109) hx hb (zd_X7_wordIn (109, .goto (-92), 3, 0, []) (List.mem_of_getElem? (i := 60) rfl)) rfl ?_
              refine zp_drop (L' := [(4, 0, ((k + 1 : Nat) : Int)), (3, 0, 0), (2, 0, ((ix + 1 : Nat) : Int)), (0, 2, (a : Int)), (1, 2, (sx : Int))]) (by simp <;> omega) ?_
              have ih9 := ih (k + 1) (by omega) (by omega) (go (fun z => by omega))
              rw [e1, e2] at ih9
              rw [if_pos (by omega), if_pos (by omega)] at ih9
              exact ih9
            · refine zp_load (pc := 99) hx hb (zd_X7_wordIn (99, .iload_n 2, 1, 0, []) (List.mem_of_getElem? (i := 54) rfl)) rfl (j := 3) rfl ?_
              refine zp_iret (pc := 100) (n := (ix : Int)) hx hb hE hQ hU5 rfl (by decide) (zd_X7_wordIn (100, .ireturn, 1, 0, []) (List.mem_of_getElem? (i := 55) rfl)) (j := 0) rfl (zp_o0 (by omega) (by omega) (by omega) (by omega)) ?_
              rw [hps]
              refine ⟨rfl, rfl, ?_⟩
              rw [← hso, if_pos hs1, ← hf, ← hq, ← hm, hg, zs_g_step hk, if_pos ⟨by omega, by rw [← hsm0]; omega⟩, ← hix0]
          · refine zp_load (pc := 55) hx hb (zd_X7_wordIn (55, .iload_n 3, 1, 0, []) (List.mem_of_getElem? (i := 29) rfl)) rfl (j := 2) rfl ?_
            refine zp_const (pc := 56) hx hb (zd_X7_wordIn (56, .iconst (-1), 1, 0, []) (List.mem_of_getElem? (i := 30) rfl)) rfl rfl ?_
            refine zp_icmp (pc := 57) (tgt := 81) hx hb (zd_X7_wordIn (57, .if_icmp .eq 24, 3, 0, []) (List.mem_of_getElem? (i := 31) rfl)) rfl (fun (hc122 : sm = (-1)) => ?_) (fun (hc122 : ¬ (sm = (-1))) => ?_)
            · refine zp_const (pc := 81) hx hb (zd_X7_wordIn (81, .iconst (-1), 1, 0, []) (List.mem_of_getElem? (i := 44) rfl)) rfl rfl ?_
              refine zp_store (L' := [(3, 0, (-1)), (5, 0, rnc119), (4, 0, (k : Int)), (2, 0, (ix : Int)), (0, 2, (a : Int)), (1, 2, (sx : Int))]) (pc := 82) hx hb hnL (zd_X7_wordIn (82, .istore_n 3, 1, 0, []) (List.mem_of_getElem? (i := 45) rfl)) rfl rfl rfl ?_
              refine zp_goto (tgt := 106) (pc := 83) hx hb (zd_X7_wordIn (83, .goto 23, 3, 0, []) (List.mem_of_getElem? (i := 46) rfl)) rfl ?_
              refine zp_iinc (L' := [(4, 0, ((k : Int) + 1)), (3, 0, (-1)), (5, 0, rnc119), (2, 0, (ix : Int)), (0, 2, (a : Int)), (1, 2, (sx : Int))]) (n := ((k : Int) + 1)) (pc := 106) hx hb hnL (zd_X7_wordIn (106, .iinc 4 1, 3, 0, []) (List.mem_of_getElem? (i := 59) rfl)) (j := 2) rfl (by omega) (zp_r0 (by omega) (by omega)) rfl rfl ?_
              refine zp_goto (tgt := 17) (pc := 109) hx hb (zd_X7_wordIn (109, .goto (-92), 3, 0, []) (List.mem_of_getElem? (i := 60) rfl)) rfl ?_
              refine zp_drop (L' := [(4, 0, ((k + 1 : Nat) : Int)), (3, 0, (-1)), (2, 0, (ix : Int)), (0, 2, (a : Int)), (1, 2, (sx : Int))]) (by simp <;> omega) ?_
              have ih9 := ih (k + 1) (by omega) (by omega) (go (fun z => by omega))
              rw [e1, e2] at ih9
              rw [if_neg (by omega), if_neg (by omega), if_neg (by omega)] at ih9
              exact ih9
            · refine zp_load (pc := 60) hx hb (zd_X7_wordIn (60, .aload_n 0, 1, 0, []) (List.mem_of_getElem? (i := 32) rfl)) rfl (j := 4) rfl ?_
              refine zp_load (pc := 61) hx hb (zd_X7_wordIn (61, .aload_n 0, 1, 0, []) (List.mem_of_getElem? (i := 33) rfl)) rfl (j := 4) rfl ?_
              refine zp_getf (n := (f : Int)) (pc := 62) hx hb hE hw (zd_X7_wordIn (62, .getfield 29, 3, 0, []) (List.mem_of_getElem? (i := 34) rfl)) (j := 4) rfl rfl rfl hp c3 ?_
              refine zp_load (pc := 65) hx hb (zd_X7_wordIn (65, .iload_n 3, 1, 0, []) (List.mem_of_getElem? (i := 35) rfl)) rfl (j := 2) rfl ?_
              refine zp_add (n := ((f : Int) + sm)) (pc := 66) hx hb (zd_X7_wordIn (66, .iadd, 1, 0, []) (List.mem_of_getElem? (i := 36) rfl)) (by omega) (zp_r0 (by omega) (by omega)) ?_
              refine zp_call (pc := 67) (how := 0) (idx := 25) (mi := 37) (S := []) hx hb hE hw heff hrm (zX_bya hW) rfl (j := 1) rfl rfl (by decide +kernel) (zd_X7_wordIn (67, .invokevirtual 25, 3, 0, []) (List.mem_of_getElem? (i := 37) rfl)) [(a : Int), ((f : Int) + sm)] rfl ⟨zp_o2 hp, zp_o0 (by omega) (by omega) (by omega) (by omega), trivial⟩ (Nat.le_of_ble_eq_true rfl) trivial (fun al hal rnb123 Pb123 Gb123 hextb123 hfrb123 hokb123 hcsb123 hpsib123 => ?_)
              obtain rfl := List.mem_singleton.mp hal
              have hrb123 := zp_int (hokb123 _ rfl).1
              obtain ⟨hPeb123, hGeb123, htb123⟩ := hpsib123
              rw [hPeb123, hGeb123]
              have hvb123 : rnb123 = zBc B ln (f + sm.toNat) := by
                have h9 := htb123 (f + sm.toNat) (show ((f : Int) + sm) = ((f + sm.toNat : Nat) : Int) by omega)
                unfold zBc
                by_cases z : f + sm.toNat < ln
                · rw [if_pos z]
                  refine (h9.1 (show ((f + sm.toNat : Nat) : Int) < zp_n u.2.1 a 1 by rw [t1]; omega)).trans ?_
                  show zp_n u.2.1 (zp_n u.2.1 a 0).toNat (2000 + (f + sm.toNat)) = _
                  rw [t0, Int.toNat_natCast]
                  exact t3 _
                · rw [if_neg z]
                  exact h9.2 (show ¬ ((f + sm.toNat : Nat) : Int) < zp_n u.2.1 a 1 by rw [t1]; omega)
              refine zp_load (pc := 70) hx hb (zd_X7_wordIn (70, .iload 5, 2, 0, []) (List.mem_of_getElem? (i := 38) rfl)) rfl (j := 0) rfl ?_
              refine zp_icmp (pc := 72) (tgt := 81) hx hb (zd_X7_wordIn (72, .if_icmp .ne 9, 3, 0, []) (List.mem_of_getElem? (i := 39) rfl)) rfl (fun (hc124 : ¬ rnb123 = rnc119) => ?_) (fun (hc124 : ¬ (¬ rnb123 = rnc119)) => ?_)
              · refine zp_const (pc := 81) hx hb (zd_X7_wordIn (81, .iconst (-1), 1, 0, []) (List.mem_of_getElem? (i := 44) rfl)) rfl rfl ?_
                refine zp_store (L' := [(3, 0, (-1)), (5, 0, rnc119), (4, 0, (k : Int)), (2, 0, (ix : Int)), (0, 2, (a : Int)), (1, 2, (sx : Int))]) (pc := 82) hx hb hnL (zd_X7_wordIn (82, .istore_n 3, 1, 0, []) (List.mem_of_getElem? (i := 45) rfl)) rfl rfl rfl ?_
                refine zp_goto (tgt := 106) (pc := 83) hx hb (zd_X7_wordIn (83, .goto 23, 3, 0, []) (List.mem_of_getElem? (i := 46) rfl)) rfl ?_
                refine zp_iinc (L' := [(4, 0, ((k : Int) + 1)), (3, 0, (-1)), (5, 0, rnc119), (2, 0, (ix : Int)), (0, 2, (a : Int)), (1, 2, (sx : Int))]) (n := ((k : Int) + 1)) (pc := 106) hx hb hnL (zd_X7_wordIn (106, .iinc 4 1, 3, 0, []) (List.mem_of_getElem? (i := 59) rfl)) (j := 2) rfl (by omega) (zp_r0 (by omega) (by omega)) rfl rfl ?_
                refine zp_goto (tgt := 17) (pc := 109) hx hb (zd_X7_wordIn (109, .goto (-92), 3, 0, []) (List.mem_of_getElem? (i := 60) rfl)) rfl ?_
                refine zp_drop (L' := [(4, 0, ((k + 1 : Nat) : Int)), (3, 0, (-1)), (2, 0, (ix : Int)), (0, 2, (a : Int)), (1, 2, (sx : Int))]) (by simp <;> omega) ?_
                have ih9 := ih (k + 1) (by omega) (by omega) (go (fun z => by omega))
                rw [e1, e2] at ih9
                rw [if_neg (by omega), if_neg (by omega), if_neg (by omega)] at ih9
                exact ih9
              · refine zp_load (pc := 75) hx hb (zd_X7_wordIn (75, .iload_n 3, 1, 0, []) (List.mem_of_getElem? (i := 40) rfl)) rfl (j := 2) rfl ?_
                refine zp_const (pc := 76) hx hb (zd_X7_wordIn (76, .iconst 1, 1, 0, []) (List.mem_of_getElem? (i := 41) rfl)) rfl rfl ?_
                refine zp_add (n := (sm + 1)) (pc := 77) hx hb (zd_X7_wordIn (77, .iadd, 1, 0, []) (List.mem_of_getElem? (i := 42) rfl)) (by omega) (zp_r0 (by omega) (by omega)) ?_
                refine zp_goto (tgt := 82) (pc := 78) hx hb (zd_X7_wordIn (78, .goto 4, 3, 0, []) (List.mem_of_getElem? (i := 43) rfl)) rfl ?_
                refine zp_store (L' := [(3, 0, (sm + 1)), (5, 0, rnc119), (4, 0, (k : Int)), (2, 0, (ix : Int)), (0, 2, (a : Int)), (1, 2, (sx : Int))]) (pc := 82) hx hb hnL (zd_X7_wordIn (82, .istore_n 3, 1, 0, []) (List.mem_of_getElem? (i := 45) rfl)) rfl rfl rfl ?_
                refine zp_goto (tgt := 106) (pc := 83) hx hb (zd_X7_wordIn (83, .goto 23, 3, 0, []) (List.mem_of_getElem? (i := 46) rfl)) rfl ?_
                refine zp_iinc (L' := [(4, 0, ((k : Int) + 1)), (3, 0, (sm + 1)), (5, 0, rnc119), (2, 0, (ix : Int)), (0, 2, (a : Int)), (1, 2, (sx : Int))]) (n := ((k : Int) + 1)) (pc := 106) hx hb hnL (zd_X7_wordIn (106, .iinc 4 1, 3, 0, []) (List.mem_of_getElem? (i := 59) rfl)) (j := 2) rfl (by omega) (zp_r0 (by omega) (by omega)) rfl rfl ?_
                refine zp_goto (tgt := 17) (pc := 109) hx hb (zd_X7_wordIn (109, .goto (-92), 3, 0, []) (List.mem_of_getElem? (i := 60) rfl)) rfl ?_
                refine zp_drop (L' := [(4, 0, ((k + 1 : Nat) : Int)), (3, 0, (sm + 1)), (2, 0, (ix : Int)), (0, 2, (a : Int)), (1, 2, (sx : Int))]) (by simp <;> omega) ?_
                have ih9 := ih (k + 1) (by omega) (by omega) (go (fun z => by omega))
                rw [e1, e2] at ih9
                rw [if_neg (by omega), if_pos ⟨by omega, by omega⟩, if_neg (by omega)] at ih9
                exact ih9
  refine zp_load (pc := 0) hx hb (zd_X7_wordIn (0, .aload_n 0, 1, 0, []) (List.mem_of_getElem? (i := 0) rfl)) rfl (j := 0) rfl ?_
  refine zp_getf (n := (so : Int)) (pc := 1) hx hb hE hw (zd_X7_wordIn (1, .getfield 35, 3, 0, []) (List.mem_of_getElem? (i := 1) rfl)) (j := 3) rfl rfl rfl hp c2 ?_
  refine zp_const (pc := 4) hx hb (zd_X7_wordIn (4, .iconst 1, 1, 0, []) (List.mem_of_getElem? (i := 2) rfl)) rfl rfl ?_
  refine zp_icmp (pc := 5) (tgt := 10) hx hb (zd_X7_wordIn (5, .if_icmp .eq 5, 3, 0, []) (List.mem_of_getElem? (i := 3) rfl)) rfl (fun (hc125 : (so : Int) = 1) => ?_) (fun (hc125 : ¬ ((so : Int) = 1)) => ?_)
  · refine zp_const (pc := 10) hx hb (zd_X7_wordIn (10, .iconst 0, 1, 0, []) (List.mem_of_getElem? (i := 6) rfl)) rfl rfl ?_
    refine zp_store (L' := [(2, 0, 0), (0, 2, (a : Int)), (1, 2, (sx : Int))]) (pc := 11) hx hb hnL (zd_X7_wordIn (11, .istore_n 2, 1, 0, []) (List.mem_of_getElem? (i := 7) rfl)) rfl rfl rfl ?_
    refine zp_const (pc := 12) hx hb (zd_X7_wordIn (12, .iconst 0, 1, 0, []) (List.mem_of_getElem? (i := 8) rfl)) rfl rfl ?_
    refine zp_store (L' := [(3, 0, 0), (2, 0, 0), (0, 2, (a : Int)), (1, 2, (sx : Int))]) (pc := 13) hx hb hnL (zd_X7_wordIn (13, .istore_n 3, 1, 0, []) (List.mem_of_getElem? (i := 9) rfl)) rfl rfl rfl ?_
    refine zp_const (pc := 14) hx hb (zd_X7_wordIn (14, .iconst 0, 1, 0, []) (List.mem_of_getElem? (i := 10) rfl)) rfl rfl ?_
    refine zp_store (L' := [(4, 0, 0), (3, 0, 0), (2, 0, 0), (0, 2, (a : Int)), (1, 2, (sx : Int))]) (pc := 15) hx hb hnL (zd_X7_wordIn (15, .istore 4, 2, 0, []) (List.mem_of_getElem? (i := 11) rfl)) rfl rfl rfl ?_
    have h9 := loop (by omega) 4 0 (by omega) (by omega) rfl
    exact h9
  · refine zp_const (pc := 8) hx hb (zd_X7_wordIn (8, .iconst (-1), 1, 0, []) (List.mem_of_getElem? (i := 4) rfl)) rfl rfl ?_
    refine zp_iret (pc := 9) (n := (-1)) hx hb hE hQ hU5 rfl (by decide) (zd_X7_wordIn (9, .ireturn, 1, 0, []) (List.mem_of_getElem? (i := 5) rfl)) (j := 0) rfl (zp_o0 (by omega) (by omega) (by omega) (by omega)) ?_
    rw [hps]
    refine ⟨rfl, rfl, ?_⟩
    rw [← hso, if_neg (by omega)]
noncomputable def zK_vwno : zk_K := (zt_mn 46, prog_9_method_10_code, 6, (Option.some Jvm.ClassFile.FieldType.int), 1, 7, [(2, 7, 0, 0), (2, 206, 0, 0)], [(some (0, 0, (-1), 400), [])], [], (9, 221, 0, 0))
noncomputable def zφ_vwno (b : Nat) (B : Nat → Int) (ln tk : Nat) : (Nat → Option Nat) → (Nat → Nat → Int) → List Int → Prop := fun P G ps => zTt (zp_0 ps) b G B ln tk
noncomputable def zψ_vwno (b : Nat) (B : Nat → Int) (ln tk : Nat) : (Nat → Option Nat) → (Nat → Nat → Int) → List Int → (Nat → Option Nat) → (Nat → Nat → Int) → Int → Prop := fun P G ps P' G' rn => P' = P ∧ G' = G ∧ rn = if zy_so B ln tk = 1 then zs_g za_no 3 (zBc B ln) (zy_fr B ln tk) ((zy_to B ln tk - zy_fr B ln tk : Nat) : Int) 0 else -1
theorem zX_vwno {l : Launch} {w : zk_W} (hW : zh_W w) (b : Nat) (B : Nat → Int) (ln tk : Nat) : zk_metX l w zt_dv zt_TB zK_vwno (zp_A (zφ_vwno b B ln tk)) (zp_B (zψ_vwno b B ln tk)) ∧ zk_cok w zt_TB zK_vwno := by
  refine zp_methX (cn := "WoundTown$Tape") zp_lkallT9 hW (pl := 733) rfl (by decide +kernel) (fun p e R s m args below meth c Q u hx hb hE hQ hU5 heff hnL hok hφ => ?_)
  have hw := hW.1
  obtain ⟨p0, p1, hps, k0, k1⟩ := zp_ps2 hok
  obtain ⟨a, rfl, hp⟩ := zp_this k0
  have hrm : zk_Kr (zk_ev (zt_types, zp_lkT9, zt_dv, [], [], zp_lcT9, zK_vwno)) = zk_Kr zK_vwno := rfl
  rw [hps] at hφ ⊢
  show zp_J p l e R s m args below meth c Q w u [] 0 [(0, 2, (a : Int)), (1, 2, p1)] [] u.1 (zp_n u.2.1)
  obtain ⟨sx, rfl, qs⟩ := zp_this k1
  have hT : zTt a b (zp_n u.2.1) B ln tk := hφ
  have hlen := zTt_len hT
  obtain ⟨⟨t0, t1, t2, t3⟩, t5, t6, c2, c3, c4, c5⟩ := hT
  obtain ⟨so, hso⟩ : ∃ x : Nat, x = zy_so B ln tk := ⟨_, rfl⟩
  obtain ⟨f, hf⟩ : ∃ x : Nat, x = zy_fr B ln tk := ⟨_, rfl⟩
  obtain ⟨q, hq⟩ : ∃ x : Nat, x = zy_to B ln tk := ⟨_, rfl⟩
  rw [← hso] at c2
  rw [← hf] at c3 hlen
  rw [← hq] at c4 hlen
  obtain ⟨m9, hm⟩ : ∃ x : Nat, x = q - f := ⟨_, rfl⟩
  have hby : ∀ j, zt_by 6 j = za_no j := fun j => rfl
  have tail : so = 1 → zs_g za_no 3 (zBc B ln) f (m9 : Int) 0 = -1 → ∀ (sm ix : Int), zp_J p l e R s m args below meth c Q w u [] 17 [(4, 0, 4), (3, 0, sm), (2, 0, ix), (0, 2, (a : Int)), (1, 2, (sx : Int))] [] u.1 (zp_n u.2.1) := by
    intro hs1 hg sm ix
    refine zp_load (pc := 17) hx hb (zd_X7_wordIn (17, .iload 4, 2, 0, []) (List.mem_of_getElem? (i := 12) rfl)) rfl (j := 0) rfl ?_
    refine zp_load (pc := 19) hx hb (zd_X7_wordIn (19, .aload_n 1, 1, 0, []) (List.mem_of_getElem? (i := 13) rfl)) rfl (j := 4) rfl ?_
    refine zp_callS (pc := 20) (how := 0) (idx := 45) (mi := 47) (S := [(0, 4)]) hx hb hE hw heff hrm (zY_len hW (t := 206) (n := 3) (by decide) rfl (by decide)) rfl (j := 3) rfl rfl (by decide +kernel) (zd_X7_wordIn (20, .invokevirtual 45, 3, 0, []) (List.mem_of_getElem? (i := 14) rfl)) [(sx : Int)] rfl ⟨zp_o2 qs, trivial⟩ (Nat.le_of_ble_eq_true rfl) trivial (fun al hal rnl126 Pl126 Gl126 hextl126 hfrl126 hokl126 hcsl126 hpsil126 => ?_)
    obtain rfl := List.mem_singleton.mp hal
    have hrl126 := zp_int (hokl126 _ rfl).1
    obtain ⟨hPel126, hGel126, htl126⟩ := hpsil126
    rw [hPel126, hGel126]
    obtain rfl : rnl126 = 3 := htl126
    refine zp_icmp (pc := 23) (tgt := 112) hx hb (zd_X7_wordIn (23, .if_icmp .gt 89, 3, 0, []) (List.mem_of_getElem? (i := 15) rfl)) rfl (fun (hc127 : 3 < 4) => ?_) (fun (hc127 : ¬ (3 < 4)) => ?_)
    · refine zp_const (pc := 112) hx hb (zd_X7_wordIn (112, .iconst (-1), 1, 0, []) (List.mem_of_getElem? (i := 61) rfl)) rfl rfl ?_
      refine zp_iret (pc := 113) (n := (-1)) hx hb hE hQ hU5 rfl (by decide) (zd_X7_wordIn (113, .ireturn, 1, 0, []) (List.mem_of_getElem? (i := 62) rfl)) (j := 0) rfl (zp_o0 (by omega) (by omega) (by omega) (by omega)) ?_
      rw [hps]
      refine ⟨rfl, rfl, ?_⟩
      rw [← hso, if_pos hs1, ← hf, ← hq, ← hm]
      exact hg.symm
    · exfalso
      omega
  have loop : so = 1 → ∀ (n9 k : Nat), 4 - k < n9 → k ≤ 3 → zs_g za_no 3 (zBc B ln) f (m9 : Int) 0 = zs_g za_no 3 (zBc B ln) f (m9 : Int) k → zp_J p l e R s m args below meth c Q w u [] 17 [(4, 0, (k : Int)), (3, 0, (zs_sm za_no (zBc B ln) f k)), (2, 0, ((zs_ix za_no k : Nat) : Int)), (0, 2, (a : Int)), (1, 2, (sx : Int))] [] u.1 (zp_n u.2.1) := by
    intro hs1 n9
    induction n9 with
    | zero => intro k h; exact absurd h (Nat.not_lt_zero _)
    | succ n9 ih =>
      intro k hn hk hg
      have hsm := zs_sm_le (S := za_no) (B := zBc B ln) (st := f) k
      have hix := zs_ix_le (S := za_no) k
      obtain ⟨sm, hsm0⟩ : ∃ x : Int, x = zs_sm za_no (zBc B ln) f k := ⟨_, rfl⟩
      obtain ⟨ix, hix0⟩ : ∃ x : Nat, x = zs_ix za_no k := ⟨_, rfl⟩
      rw [← hsm0, ← hix0]
      rw [← hsm0] at hsm
      rw [← hix0] at hix
      have e1 : zs_sm za_no (zBc B ln) f (k + 1) = if za_no k = 32 then 0 else if sm ≠ -1 ∧ zBc B ln (f + sm.toNat) = za_no k then sm + 1 else -1 := by
        rw [hsm0]
        rfl
      have e2 : zs_ix za_no (k + 1) = if za_no k = 32 then ix + 1 else ix := by
        rw [hix0]
        rfl
      have go : ¬ ((k = 3 ∨ za_no k = 32) ∧ sm = (m9 : Int)) → zs_g za_no 3 (zBc B ln) f (m9 : Int) 0 = zs_g za_no 3 (zBc B ln) f (m9 : Int) (k + 1) := fun z => by
        rw [hg, zs_g_step hk, if_neg (by rw [← hsm0]; exact z)]
      refine zp_load (pc := 17) hx hb (zd_X7_wordIn (17, .iload 4, 2, 0, []) (List.mem_of_getElem? (i := 12) rfl)) rfl (j := 0) rfl ?_
      refine zp_load (pc := 19) hx hb (zd_X7_wordIn (19, .aload_n 1, 1, 0, []) (List.mem_of_getElem? (i := 13) rfl)) rfl (j := 4) rfl ?_
      refine zp_callS (pc := 20) (how := 0) (idx := 45) (mi := 47) (S := [(0, (k : Int))]) hx hb hE hw heff hrm (zY_len hW (t := 206) (n := 3) (by decide) rfl (by decide)) rfl (j := 3) rfl rfl (by decide +kernel) (zd_X7_wordIn (20, .invokevirtual 45, 3, 0, []) (List.mem_of_getElem? (i := 14) rfl)) [(sx : Int)] rfl ⟨zp_o2 qs, trivial⟩ (Nat.le_of_ble_eq_true rfl) trivial (fun al hal rnl128 Pl128 Gl128 hextl128 hfrl128 hokl128 hcsl128 hpsil128 => ?_)
      obtain rfl := List.mem_singleton.mp hal
      have hrl128 := zp_int (hokl128 _ rfl).1
      obtain ⟨hPel128, hGel128, htl128⟩ := hpsil128
      rw [hPel128, hGel128]
      obtain rfl : rnl128 = 3 := htl128
      refine zp_icmp (pc := 23) (tgt := 112) hx hb (zd_X7_wordIn (23, .if_icmp .gt 89, 3, 0, []) (List.mem_of_getElem? (i := 15) rfl)) rfl (fun (hc129 : 3 < (k : Int)) => ?_) (fun (hc129 : ¬ (3 < (k : Int))) => ?_)
      · refine zp_const (pc := 112) hx hb (zd_X7_wordIn (112, .iconst (-1), 1, 0, []) (List.mem_of_getElem? (i := 61) rfl)) rfl rfl ?_
        exfalso
        omega
      · refine zp_load (pc := 26) hx hb (zd_X7_wordIn (26, .iload 4, 2, 0, []) (List.mem_of_getElem? (i := 16) rfl)) rfl (j := 0) rfl ?_
        refine zp_load (pc := 28) hx hb (zd_X7_wordIn (28, .aload_n 1, 1, 0, []) (List.mem_of_getElem? (i := 17) rfl)) rfl (j := 4) rfl ?_
        refine zp_callS (pc := 29) (how := 0) (idx := 45) (mi := 47) (S := [(0, (k : Int))]) hx hb hE hw heff hrm (zY_len hW (t := 206) (n := 3) (by decide) rfl (by decide)) rfl (j := 3) rfl rfl (by decide +kernel) (zd_X7_wordIn (29, .invokevirtual 45, 3, 0, []) (List.mem_of_getElem? (i := 18) rfl)) [(sx : Int)] rfl ⟨zp_o2 qs, trivial⟩ (Nat.le_of_ble_eq_true rfl) trivial (fun al hal rnl130 Pl130 Gl130 hextl130 hfrl130 hokl130 hcsl130 hpsil130 => ?_)
        obtain rfl := List.mem_singleton.mp hal
        have hrl130 := zp_int (hokl130 _ rfl).1
        obtain ⟨hPel130, hGel130, htl130⟩ := hpsil130
        rw [hPel130, hGel130]
        obtain rfl : rnl130 = 3 := htl130
        refine zp_icmp (pc := 32) (tgt := 44) hx hb (zd_X7_wordIn (32, .if_icmp .ge 12, 3, 0, []) (List.mem_of_getElem? (i := 19) rfl)) rfl (fun (hc131 : 3 ≤ (k : Int)) => ?_) (fun (hc131 : ¬ (3 ≤ (k : Int))) => ?_)
        · refine zp_const (pc := 44) hx hb (zd_X7_wordIn (44, .bipush 32, 2, 0, []) (List.mem_of_getElem? (i := 24) rfl)) rfl rfl ?_
          refine zp_store (L' := [(5, 0, 32), (4, 0, (k : Int)), (3, 0, sm), (2, 0, (ix : Int)), (0, 2, (a : Int)), (1, 2, (sx : Int))]) (pc := 46) hx hb hnL (zd_X7_wordIn (46, .istore 5, 2, 0, []) (List.mem_of_getElem? (i := 25) rfl)) rfl rfl rfl ?_
          refine zp_load (pc := 48) hx hb (zd_X7_wordIn (48, .iload 5, 2, 0, []) (List.mem_of_getElem? (i := 26) rfl)) rfl (j := 0) rfl ?_
          refine zp_const (pc := 50) hx hb (zd_X7_wordIn (50, .bipush 32, 2, 0, []) (List.mem_of_getElem? (i := 27) rfl)) rfl rfl ?_
          refine zp_icmp (pc := 52) (tgt := 86) hx hb (zd_X7_wordIn (52, .if_icmp .eq 34, 3, 0, []) (List.mem_of_getElem? (i := 28) rfl)) rfl (fun (hc132 : 32 = 32) => ?_) (fun (hc132 : ¬ (32 = 32)) => ?_)
          · refine zp_load (pc := 86) hx hb (zd_X7_wordIn (86, .iload_n 3, 1, 0, []) (List.mem_of_getElem? (i := 47) rfl)) rfl (j := 2) rfl ?_
            refine zp_load (pc := 87) hx hb (zd_X7_wordIn (87, .aload_n 0, 1, 0, []) (List.mem_of_getElem? (i := 48) rfl)) rfl (j := 4) rfl ?_
            refine zp_getf (n := (q : Int)) (pc := 88) hx hb hE hw (zd_X7_wordIn (88, .getfield 19, 3, 0, []) (List.mem_of_getElem? (i := 49) rfl)) (j := 5) rfl rfl rfl hp c4 ?_
            refine zp_load (pc := 91) hx hb (zd_X7_wordIn (91, .aload_n 0, 1, 0, []) (List.mem_of_getElem? (i := 50) rfl)) rfl (j := 4) rfl ?_
            refine zp_getf (n := (f : Int)) (pc := 92) hx hb hE hw (zd_X7_wordIn (92, .getfield 29, 3, 0, []) (List.mem_of_getElem? (i := 51) rfl)) (j := 4) rfl rfl rfl hp c3 ?_
            refine zp_sub (n := ((q : Int) + (-1) * (f : Int))) (pc := 95) hx hb (zd_X7_wordIn (95, .isub, 1, 0, []) (List.mem_of_getElem? (i := 52) rfl)) (by omega) (zp_r0 (by omega) (by omega)) ?_
            refine zp_icmp (pc := 96) (tgt := 101) hx hb (zd_X7_wordIn (96, .if_icmp .ne 5, 3, 0, []) (List.mem_of_getElem? (i := 53) rfl)) rfl (fun (hc133 : ¬ sm = ((q : Int) + (-1) * (f : Int))) => ?_) (fun (hc133 : ¬ (¬ sm = ((q : Int) + (-1) * (f : Int)))) => ?_)
            · refine zp_iinc (L' := [(2, 0, ((ix : Int) + 1)), (5, 0, 32), (4, 0, (k : Int)), (3, 0, sm), (0, 2, (a : Int)), (1, 2, (sx : Int))]) (n := ((ix : Int) + 1)) (pc := 101) hx hb hnL (zd_X7_wordIn (101, .iinc 2 1, 3, 0, []) (List.mem_of_getElem? (i := 56) rfl)) (j := 3) rfl (by omega) (zp_r0 (by omega) (by omega)) rfl rfl ?_
              refine zp_const (pc := 104) hx hb (zd_X7_wordIn (104, .iconst 0, 1, 0, []) (List.mem_of_getElem? (i := 57) rfl)) rfl rfl ?_
              refine zp_store (L' := [(3, 0, 0), (2, 0, ((ix : Int) + 1)), (5, 0, 32), (4, 0, (k : Int)), (0, 2, (a : Int)), (1, 2, (sx : Int))]) (pc := 105) hx hb hnL (zd_X7_wordIn (105, .istore_n 3, 1, 0, []) (List.mem_of_getElem? (i := 58) rfl)) rfl rfl rfl ?_
              refine zp_iinc (L' := [(4, 0, ((k : Int) + 1)), (3, 0, 0), (2, 0, ((ix : Int) + 1)), (5, 0, 32), (0, 2, (a : Int)), (1, 2, (sx : Int))]) (n := ((k : Int) + 1)) (pc := 106) hx hb hnL (zd_X7_wordIn (106, .iinc 4 1, 3, 0, []) (List.mem_of_getElem? (i := 59) rfl)) (j := 3) rfl (by omega) (zp_r0 (by omega) (by omega)) rfl rfl ?_
              refine zp_goto (tgt := 17) (pc := 109) hx hb (zd_X7_wordIn (109, .goto (-92), 3, 0, []) (List.mem_of_getElem? (i := 60) rfl)) rfl ?_
              refine zp_drop (L' := [(4, 0, 4), (3, 0, 0), (2, 0, ((ix : Int) + 1)), (0, 2, (a : Int)), (1, 2, (sx : Int))]) (by simp <;> omega) ?_
              have hkn : k = 3 := by omega
              exact tail hs1 ((go (fun z => by omega)).trans (zs_g_end (by omega))) _ _
            · refine zp_load (pc := 99) hx hb (zd_X7_wordIn (99, .iload_n 2, 1, 0, []) (List.mem_of_getElem? (i := 54) rfl)) rfl (j := 3) rfl ?_
              refine zp_iret (pc := 100) (n := (ix : Int)) hx hb hE hQ hU5 rfl (by decide) (zd_X7_wordIn (100, .ireturn, 1, 0, []) (List.mem_of_getElem? (i := 55) rfl)) (j := 0) rfl (zp_o0 (by omega) (by omega) (by omega) (by omega)) ?_
              rw [hps]
              refine ⟨rfl, rfl, ?_⟩
              rw [← hso, if_pos hs1, ← hf, ← hq, ← hm, hg, zs_g_step hk, if_pos ⟨by omega, by rw [← hsm0]; omega⟩, ← hix0]
          · exfalso
            omega
        · refine zp_load (pc := 35) hx hb (zd_X7_wordIn (35, .aload_n 1, 1, 0, []) (List.mem_of_getElem? (i := 20) rfl)) rfl (j := 4) rfl ?_
          refine zp_load (pc := 36) hx hb (zd_X7_wordIn (36, .iload 4, 2, 0, []) (List.mem_of_getElem? (i := 21) rfl)) rfl (j := 0) rfl ?_
          refine zp_callS (pc := 38) (how := 0) (idx := 50) (mi := 49) (S := []) hx hb hE hw heff hrm (zY_chr hW (t := 206) (n := 3) (by decide) rfl (by decide)) rfl (j := 4) rfl rfl (by decide +kernel) (zd_X7_wordIn (38, .invokevirtual 50, 3, 0, []) (List.mem_of_getElem? (i := 22) rfl)) [(sx : Int), (k : Int)] rfl ⟨zp_o2 qs, zp_o0 (by omega) (by omega) (by omega) (by omega), trivial⟩ (Nat.le_of_ble_eq_true rfl) trivial (fun al hal rnc134 Pc134 Gc134 hextc134 hfrc134 hokc134 hcsc134 hpsic134 => ?_)
          obtain rfl := List.mem_singleton.mp hal
          have hrc134 := zp_int (hokc134 _ rfl).1
          obtain ⟨hPec134, hGec134, htc134⟩ := hpsic134
          rw [hPec134, hGec134]
          have hcc134 : rnc134 = za_no k := by
            refine htc134.trans ?_
            show zt_by (206 - 200) ((k : Int)).toNat = _
            rw [Int.toNat_natCast]
            exact hby k
          refine zp_goto (tgt := 46) (pc := 41) hx hb (zd_X7_wordIn (41, .goto 5, 3, 0, []) (List.mem_of_getElem? (i := 23) rfl)) rfl ?_
          refine zp_store (L' := [(5, 0, rnc134), (4, 0, (k : Int)), (3, 0, sm), (2, 0, (ix : Int)), (0, 2, (a : Int)), (1, 2, (sx : Int))]) (pc := 46) hx hb hnL (zd_X7_wordIn (46, .istore 5, 2, 0, []) (List.mem_of_getElem? (i := 25) rfl)) rfl rfl rfl ?_
          refine zp_load (pc := 48) hx hb (zd_X7_wordIn (48, .iload 5, 2, 0, []) (List.mem_of_getElem? (i := 26) rfl)) rfl (j := 0) rfl ?_
          refine zp_const (pc := 50) hx hb (zd_X7_wordIn (50, .bipush 32, 2, 0, []) (List.mem_of_getElem? (i := 27) rfl)) rfl rfl ?_
          refine zp_icmp (pc := 52) (tgt := 86) hx hb (zd_X7_wordIn (52, .if_icmp .eq 34, 3, 0, []) (List.mem_of_getElem? (i := 28) rfl)) rfl (fun (hc135 : rnc134 = 32) => ?_) (fun (hc135 : ¬ (rnc134 = 32)) => ?_)
          · refine zp_load (pc := 86) hx hb (zd_X7_wordIn (86, .iload_n 3, 1, 0, []) (List.mem_of_getElem? (i := 47) rfl)) rfl (j := 2) rfl ?_
            refine zp_load (pc := 87) hx hb (zd_X7_wordIn (87, .aload_n 0, 1, 0, []) (List.mem_of_getElem? (i := 48) rfl)) rfl (j := 4) rfl ?_
            refine zp_getf (n := (q : Int)) (pc := 88) hx hb hE hw (zd_X7_wordIn (88, .getfield 19, 3, 0, []) (List.mem_of_getElem? (i := 49) rfl)) (j := 5) rfl rfl rfl hp c4 ?_
            refine zp_load (pc := 91) hx hb (zd_X7_wordIn (91, .aload_n 0, 1, 0, []) (List.mem_of_getElem? (i := 50) rfl)) rfl (j := 4) rfl ?_
            refine zp_getf (n := (f : Int)) (pc := 92) hx hb hE hw (zd_X7_wordIn (92, .getfield 29, 3, 0, []) (List.mem_of_getElem? (i := 51) rfl)) (j := 4) rfl rfl rfl hp c3 ?_
            refine zp_sub (n := ((q : Int) + (-1) * (f : Int))) (pc := 95) hx hb (zd_X7_wordIn (95, .isub, 1, 0, []) (List.mem_of_getElem? (i := 52) rfl)) (by omega) (zp_r0 (by omega) (by omega)) ?_
            refine zp_icmp (pc := 96) (tgt := 101) hx hb (zd_X7_wordIn (96, .if_icmp .ne 5, 3, 0, []) (List.mem_of_getElem? (i := 53) rfl)) rfl (fun (hc136 : ¬ sm = ((q : Int) + (-1) * (f : Int))) => ?_) (fun (hc136 : ¬ (¬ sm = ((q : Int) + (-1) * (f : Int)))) => ?_)
            · refine zp_iinc (L' := [(2, 0, ((ix : Int) + 1)), (5, 0, rnc134), (4, 0, (k : Int)), (3, 0, sm), (0, 2, (a : Int)), (1, 2, (sx : Int))]) (n := ((ix : Int) + 1)) (pc := 101) hx hb hnL (zd_X7_wordIn (101, .iinc 2 1, 3, 0, []) (List.mem_of_getElem? (i := 56) rfl)) (j := 3) rfl (by omega) (zp_r0 (by omega) (by omega)) rfl rfl ?_
              refine zp_const (pc := 104) hx hb (zd_X7_wordIn (104, .iconst 0, 1, 0, []) (List.mem_of_getElem? (i := 57) rfl)) rfl rfl ?_
              refine zp_store (L' := [(3, 0, 0), (2, 0, ((ix : Int) + 1)), (5, 0, rnc134), (4, 0, (k : Int)), (0, 2, (a : Int)), (1, 2, (sx : Int))]) (pc := 105) hx hb hnL (zd_X7_wordIn (105, .istore_n 3, 1, 0, []) (List.mem_of_getElem? (i := 58) rfl)) rfl rfl rfl ?_
              refine zp_iinc (L' := [(4, 0, ((k : Int) + 1)), (3, 0, 0), (2, 0, ((ix : Int) + 1)), (5, 0, rnc134), (0, 2, (a : Int)), (1, 2, (sx : Int))]) (n := ((k : Int) + 1)) (pc := 106) hx hb hnL (zd_X7_wordIn (106, .iinc 4 1, 3, 0, []) (List.mem_of_getElem? (i := 59) rfl)) (j := 3) rfl (by omega) (zp_r0 (by omega) (by omega)) rfl rfl ?_
              refine zp_goto (tgt := 17) (pc := 109) hx hb (zd_X7_wordIn (109, .goto (-92), 3, 0, []) (List.mem_of_getElem? (i := 60) rfl)) rfl ?_
              refine zp_drop (L' := [(4, 0, ((k + 1 : Nat) : Int)), (3, 0, 0), (2, 0, ((ix + 1 : Nat) : Int)), (0, 2, (a : Int)), (1, 2, (sx : Int))]) (by simp <;> omega) ?_
              have ih9 := ih (k + 1) (by omega) (by omega) (go (fun z => by omega))
              rw [e1, e2] at ih9
              rw [if_pos (by omega), if_pos (by omega)] at ih9
              exact ih9
            · refine zp_load (pc := 99) hx hb (zd_X7_wordIn (99, .iload_n 2, 1, 0, []) (List.mem_of_getElem? (i := 54) rfl)) rfl (j := 3) rfl ?_
              refine zp_iret (pc := 100) (n := (ix : Int)) hx hb hE hQ hU5 rfl (by decide) (zd_X7_wordIn (100, .ireturn, 1, 0, []) (List.mem_of_getElem? (i := 55) rfl)) (j := 0) rfl (zp_o0 (by omega) (by omega) (by omega) (by omega)) ?_
              rw [hps]
              refine ⟨rfl, rfl, ?_⟩
              rw [← hso, if_pos hs1, ← hf, ← hq, ← hm, hg, zs_g_step hk, if_pos ⟨by omega, by rw [← hsm0]; omega⟩, ← hix0]
          · refine zp_load (pc := 55) hx hb (zd_X7_wordIn (55, .iload_n 3, 1, 0, []) (List.mem_of_getElem? (i := 29) rfl)) rfl (j := 2) rfl ?_
            refine zp_const (pc := 56) hx hb (zd_X7_wordIn (56, .iconst (-1), 1, 0, []) (List.mem_of_getElem? (i := 30) rfl)) rfl rfl ?_
            refine zp_icmp (pc := 57) (tgt := 81) hx hb (zd_X7_wordIn (57, .if_icmp .eq 24, 3, 0, []) (List.mem_of_getElem? (i := 31) rfl)) rfl (fun (hc137 : sm = (-1)) => ?_) (fun (hc137 : ¬ (sm = (-1))) => ?_)
            · refine zp_const (pc := 81) hx hb (zd_X7_wordIn (81, .iconst (-1), 1, 0, []) (List.mem_of_getElem? (i := 44) rfl)) rfl rfl ?_
              refine zp_store (L' := [(3, 0, (-1)), (5, 0, rnc134), (4, 0, (k : Int)), (2, 0, (ix : Int)), (0, 2, (a : Int)), (1, 2, (sx : Int))]) (pc := 82) hx hb hnL (zd_X7_wordIn (82, .istore_n 3, 1, 0, []) (List.mem_of_getElem? (i := 45) rfl)) rfl rfl rfl ?_
              refine zp_goto (tgt := 106) (pc := 83) hx hb (zd_X7_wordIn (83, .goto 23, 3, 0, []) (List.mem_of_getElem? (i := 46) rfl)) rfl ?_
              refine zp_iinc (L' := [(4, 0, ((k : Int) + 1)), (3, 0, (-1)), (5, 0, rnc134), (2, 0, (ix : Int)), (0, 2, (a : Int)), (1, 2, (sx : Int))]) (n := ((k : Int) + 1)) (pc := 106) hx hb hnL (zd_X7_wordIn (106, .iinc 4 1, 3, 0, []) (List.mem_of_getElem? (i := 59) rfl)) (j := 2) rfl (by omega) (zp_r0 (by omega) (by omega)) rfl rfl ?_
              refine zp_goto (tgt := 17) (pc := 109) hx hb (zd_X7_wordIn (109, .goto (-92), 3, 0, []) (List.mem_of_getElem? (i := 60) rfl)) rfl ?_
              refine zp_drop (L' := [(4, 0, ((k + 1 : Nat) : Int)), (3, 0, (-1)), (2, 0, (ix : Int)), (0, 2, (a : Int)), (1, 2, (sx : Int))]) (by simp <;> omega) ?_
              have ih9 := ih (k + 1) (by omega) (by omega) (go (fun z => by omega))
              rw [e1, e2] at ih9
              rw [if_neg (by omega), if_neg (by omega), if_neg (by omega)] at ih9
              exact ih9
            · refine zp_load (pc := 60) hx hb (zd_X7_wordIn (60, .aload_n 0, 1, 0, []) (List.mem_of_getElem? (i := 32) rfl)) rfl (j := 4) rfl ?_
              refine zp_load (pc := 61) hx hb (zd_X7_wordIn (61, .aload_n 0, 1, 0, []) (List.mem_of_getElem? (i := 33) rfl)) rfl (j := 4) rfl ?_
              refine zp_getf (n := (f : Int)) (pc := 62) hx hb hE hw (zd_X7_wordIn (62, .getfield 29, 3, 0, []) (List.mem_of_getElem? (i := 34) rfl)) (j := 4) rfl rfl rfl hp c3 ?_
              refine zp_load (pc := 65) hx hb (zd_X7_wordIn (65, .iload_n 3, 1, 0, []) (List.mem_of_getElem? (i := 35) rfl)) rfl (j := 2) rfl ?_
              refine zp_add (n := ((f : Int) + sm)) (pc := 66) hx hb (zd_X7_wordIn (66, .iadd, 1, 0, []) (List.mem_of_getElem? (i := 36) rfl)) (by omega) (zp_r0 (by omega) (by omega)) ?_
              refine zp_call (pc := 67) (how := 0) (idx := 25) (mi := 37) (S := []) hx hb hE hw heff hrm (zX_bya hW) rfl (j := 1) rfl rfl (by decide +kernel) (zd_X7_wordIn (67, .invokevirtual 25, 3, 0, []) (List.mem_of_getElem? (i := 37) rfl)) [(a : Int), ((f : Int) + sm)] rfl ⟨zp_o2 hp, zp_o0 (by omega) (by omega) (by omega) (by omega), trivial⟩ (Nat.le_of_ble_eq_true rfl) trivial (fun al hal rnb138 Pb138 Gb138 hextb138 hfrb138 hokb138 hcsb138 hpsib138 => ?_)
              obtain rfl := List.mem_singleton.mp hal
              have hrb138 := zp_int (hokb138 _ rfl).1
              obtain ⟨hPeb138, hGeb138, htb138⟩ := hpsib138
              rw [hPeb138, hGeb138]
              have hvb138 : rnb138 = zBc B ln (f + sm.toNat) := by
                have h9 := htb138 (f + sm.toNat) (show ((f : Int) + sm) = ((f + sm.toNat : Nat) : Int) by omega)
                unfold zBc
                by_cases z : f + sm.toNat < ln
                · rw [if_pos z]
                  refine (h9.1 (show ((f + sm.toNat : Nat) : Int) < zp_n u.2.1 a 1 by rw [t1]; omega)).trans ?_
                  show zp_n u.2.1 (zp_n u.2.1 a 0).toNat (2000 + (f + sm.toNat)) = _
                  rw [t0, Int.toNat_natCast]
                  exact t3 _
                · rw [if_neg z]
                  exact h9.2 (show ¬ ((f + sm.toNat : Nat) : Int) < zp_n u.2.1 a 1 by rw [t1]; omega)
              refine zp_load (pc := 70) hx hb (zd_X7_wordIn (70, .iload 5, 2, 0, []) (List.mem_of_getElem? (i := 38) rfl)) rfl (j := 0) rfl ?_
              refine zp_icmp (pc := 72) (tgt := 81) hx hb (zd_X7_wordIn (72, .if_icmp .ne 9, 3, 0, []) (List.mem_of_getElem? (i := 39) rfl)) rfl (fun (hc139 : ¬ rnb138 = rnc134) => ?_) (fun (hc139 : ¬ (¬ rnb138 = rnc134)) => ?_)
              · refine zp_const (pc := 81) hx hb (zd_X7_wordIn (81, .iconst (-1), 1, 0, []) (List.mem_of_getElem? (i := 44) rfl)) rfl rfl ?_
                refine zp_store (L' := [(3, 0, (-1)), (5, 0, rnc134), (4, 0, (k : Int)), (2, 0, (ix : Int)), (0, 2, (a : Int)), (1, 2, (sx : Int))]) (pc := 82) hx hb hnL (zd_X7_wordIn (82, .istore_n 3, 1, 0, []) (List.mem_of_getElem? (i := 45) rfl)) rfl rfl rfl ?_
                refine zp_goto (tgt := 106) (pc := 83) hx hb (zd_X7_wordIn (83, .goto 23, 3, 0, []) (List.mem_of_getElem? (i := 46) rfl)) rfl ?_
                refine zp_iinc (L' := [(4, 0, ((k : Int) + 1)), (3, 0, (-1)), (5, 0, rnc134), (2, 0, (ix : Int)), (0, 2, (a : Int)), (1, 2, (sx : Int))]) (n := ((k : Int) + 1)) (pc := 106) hx hb hnL (zd_X7_wordIn (106, .iinc 4 1, 3, 0, []) (List.mem_of_getElem? (i := 59) rfl)) (j := 2) rfl (by omega) (zp_r0 (by omega) (by omega)) rfl rfl ?_
                refine zp_goto (tgt := 17) (pc := 109) hx hb (zd_X7_wordIn (109, .goto (-92), 3, 0, []) (List.mem_of_getElem? (i := 60) rfl)) rfl ?_
                refine zp_drop (L' := [(4, 0, ((k + 1 : Nat) : Int)), (3, 0, (-1)), (2, 0, (ix : Int)), (0, 2, (a : Int)), (1, 2, (sx : Int))]) (by simp <;> omega) ?_
                have ih9 := ih (k + 1) (by omega) (by omega) (go (fun z => by omega))
                rw [e1, e2] at ih9
                rw [if_neg (by omega), if_neg (by omega), if_neg (by omega)] at ih9
                exact ih9
              · refine zp_load (pc := 75) hx hb (zd_X7_wordIn (75, .iload_n 3, 1, 0, []) (List.mem_of_getElem? (i := 40) rfl)) rfl (j := 2) rfl ?_
                refine zp_const (pc := 76) hx hb (zd_X7_wordIn (76, .iconst 1, 1, 0, []) (List.mem_of_getElem? (i := 41) rfl)) rfl rfl ?_
                refine zp_add (n := (sm + 1)) (pc := 77) hx hb (zd_X7_wordIn (77, .iadd, 1, 0, []) (List.mem_of_getElem? (i := 42) rfl)) (by omega) (zp_r0 (by omega) (by omega)) ?_
                refine zp_goto (tgt := 82) (pc := 78) hx hb (zd_X7_wordIn (78, .goto 4, 3, 0, []) (List.mem_of_getElem? (i := 43) rfl)) rfl ?_
                refine zp_store (L' := [(3, 0, (sm + 1)), (5, 0, rnc134), (4, 0, (k : Int)), (2, 0, (ix : Int)), (0, 2, (a : Int)), (1, 2, (sx : Int))]) (pc := 82) hx hb hnL (zd_X7_wordIn (82, .istore_n 3, 1, 0, []) (List.mem_of_getElem? (i := 45) rfl)) rfl rfl rfl ?_
                refine zp_goto (tgt := 106) (pc := 83) hx hb (zd_X7_wordIn (83, .goto 23, 3, 0, []) (List.mem_of_getElem? (i := 46) rfl)) rfl ?_
                refine zp_iinc (L' := [(4, 0, ((k : Int) + 1)), (3, 0, (sm + 1)), (5, 0, rnc134), (2, 0, (ix : Int)), (0, 2, (a : Int)), (1, 2, (sx : Int))]) (n := ((k : Int) + 1)) (pc := 106) hx hb hnL (zd_X7_wordIn (106, .iinc 4 1, 3, 0, []) (List.mem_of_getElem? (i := 59) rfl)) (j := 2) rfl (by omega) (zp_r0 (by omega) (by omega)) rfl rfl ?_
                refine zp_goto (tgt := 17) (pc := 109) hx hb (zd_X7_wordIn (109, .goto (-92), 3, 0, []) (List.mem_of_getElem? (i := 60) rfl)) rfl ?_
                refine zp_drop (L' := [(4, 0, ((k + 1 : Nat) : Int)), (3, 0, (sm + 1)), (2, 0, (ix : Int)), (0, 2, (a : Int)), (1, 2, (sx : Int))]) (by simp <;> omega) ?_
                have ih9 := ih (k + 1) (by omega) (by omega) (go (fun z => by omega))
                rw [e1, e2] at ih9
                rw [if_neg (by omega), if_pos ⟨by omega, by omega⟩, if_neg (by omega)] at ih9
                exact ih9
  refine zp_load (pc := 0) hx hb (zd_X7_wordIn (0, .aload_n 0, 1, 0, []) (List.mem_of_getElem? (i := 0) rfl)) rfl (j := 0) rfl ?_
  refine zp_getf (n := (so : Int)) (pc := 1) hx hb hE hw (zd_X7_wordIn (1, .getfield 35, 3, 0, []) (List.mem_of_getElem? (i := 1) rfl)) (j := 3) rfl rfl rfl hp c2 ?_
  refine zp_const (pc := 4) hx hb (zd_X7_wordIn (4, .iconst 1, 1, 0, []) (List.mem_of_getElem? (i := 2) rfl)) rfl rfl ?_
  refine zp_icmp (pc := 5) (tgt := 10) hx hb (zd_X7_wordIn (5, .if_icmp .eq 5, 3, 0, []) (List.mem_of_getElem? (i := 3) rfl)) rfl (fun (hc140 : (so : Int) = 1) => ?_) (fun (hc140 : ¬ ((so : Int) = 1)) => ?_)
  · refine zp_const (pc := 10) hx hb (zd_X7_wordIn (10, .iconst 0, 1, 0, []) (List.mem_of_getElem? (i := 6) rfl)) rfl rfl ?_
    refine zp_store (L' := [(2, 0, 0), (0, 2, (a : Int)), (1, 2, (sx : Int))]) (pc := 11) hx hb hnL (zd_X7_wordIn (11, .istore_n 2, 1, 0, []) (List.mem_of_getElem? (i := 7) rfl)) rfl rfl rfl ?_
    refine zp_const (pc := 12) hx hb (zd_X7_wordIn (12, .iconst 0, 1, 0, []) (List.mem_of_getElem? (i := 8) rfl)) rfl rfl ?_
    refine zp_store (L' := [(3, 0, 0), (2, 0, 0), (0, 2, (a : Int)), (1, 2, (sx : Int))]) (pc := 13) hx hb hnL (zd_X7_wordIn (13, .istore_n 3, 1, 0, []) (List.mem_of_getElem? (i := 9) rfl)) rfl rfl rfl ?_
    refine zp_const (pc := 14) hx hb (zd_X7_wordIn (14, .iconst 0, 1, 0, []) (List.mem_of_getElem? (i := 10) rfl)) rfl rfl ?_
    refine zp_store (L' := [(4, 0, 0), (3, 0, 0), (2, 0, 0), (0, 2, (a : Int)), (1, 2, (sx : Int))]) (pc := 15) hx hb hnL (zd_X7_wordIn (15, .istore 4, 2, 0, []) (List.mem_of_getElem? (i := 11) rfl)) rfl rfl rfl ?_
    have h9 := loop (by omega) 5 0 (by omega) (by omega) rfl
    exact h9
  · refine zp_const (pc := 8) hx hb (zd_X7_wordIn (8, .iconst (-1), 1, 0, []) (List.mem_of_getElem? (i := 4) rfl)) rfl rfl ?_
    refine zp_iret (pc := 9) (n := (-1)) hx hb hE hQ hU5 rfl (by decide) (zd_X7_wordIn (9, .ireturn, 1, 0, []) (List.mem_of_getElem? (i := 5) rfl)) (j := 0) rfl (zp_o0 (by omega) (by omega) (by omega) (by omega)) ?_
    rw [hps]
    refine ⟨rfl, rfl, ?_⟩
    rw [← hso, if_neg (by omega)]
noncomputable def zK_vwan : zk_K := (zt_mn 46, prog_9_method_10_code, 6, (Option.some Jvm.ClassFile.FieldType.int), 1, 7, [(2, 7, 0, 0), (2, 207, 0, 0)], [(some (0, 0, (-1), 400), [])], [], (9, 221, 0, 0))
noncomputable def zφ_vwan (b : Nat) (B : Nat → Int) (ln tk : Nat) : (Nat → Option Nat) → (Nat → Nat → Int) → List Int → Prop := fun P G ps => zTt (zp_0 ps) b G B ln tk
noncomputable def zψ_vwan (b : Nat) (B : Nat → Int) (ln tk : Nat) : (Nat → Option Nat) → (Nat → Nat → Int) → List Int → (Nat → Option Nat) → (Nat → Nat → Int) → Int → Prop := fun P G ps P' G' rn => P' = P ∧ G' = G ∧ rn = if zy_so B ln tk = 1 then zs_g za_an 3 (zBc B ln) (zy_fr B ln tk) ((zy_to B ln tk - zy_fr B ln tk : Nat) : Int) 0 else -1
theorem zX_vwan {l : Launch} {w : zk_W} (hW : zh_W w) (b : Nat) (B : Nat → Int) (ln tk : Nat) : zk_metX l w zt_dv zt_TB zK_vwan (zp_A (zφ_vwan b B ln tk)) (zp_B (zψ_vwan b B ln tk)) ∧ zk_cok w zt_TB zK_vwan := by
  refine zp_methX (cn := "WoundTown$Tape") zp_lkallT9 hW (pl := 733) rfl (by decide +kernel) (fun p e R s m args below meth c Q u hx hb hE hQ hU5 heff hnL hok hφ => ?_)
  have hw := hW.1
  obtain ⟨p0, p1, hps, k0, k1⟩ := zp_ps2 hok
  obtain ⟨a, rfl, hp⟩ := zp_this k0
  have hrm : zk_Kr (zk_ev (zt_types, zp_lkT9, zt_dv, [], [], zp_lcT9, zK_vwan)) = zk_Kr zK_vwan := rfl
  rw [hps] at hφ ⊢
  show zp_J p l e R s m args below meth c Q w u [] 0 [(0, 2, (a : Int)), (1, 2, p1)] [] u.1 (zp_n u.2.1)
  obtain ⟨sx, rfl, qs⟩ := zp_this k1
  have hT : zTt a b (zp_n u.2.1) B ln tk := hφ
  have hlen := zTt_len hT
  obtain ⟨⟨t0, t1, t2, t3⟩, t5, t6, c2, c3, c4, c5⟩ := hT
  obtain ⟨so, hso⟩ : ∃ x : Nat, x = zy_so B ln tk := ⟨_, rfl⟩
  obtain ⟨f, hf⟩ : ∃ x : Nat, x = zy_fr B ln tk := ⟨_, rfl⟩
  obtain ⟨q, hq⟩ : ∃ x : Nat, x = zy_to B ln tk := ⟨_, rfl⟩
  rw [← hso] at c2
  rw [← hf] at c3 hlen
  rw [← hq] at c4 hlen
  obtain ⟨m9, hm⟩ : ∃ x : Nat, x = q - f := ⟨_, rfl⟩
  have hby : ∀ j, zt_by 7 j = za_an j := fun j => rfl
  have tail : so = 1 → zs_g za_an 3 (zBc B ln) f (m9 : Int) 0 = -1 → ∀ (sm ix : Int), zp_J p l e R s m args below meth c Q w u [] 17 [(4, 0, 4), (3, 0, sm), (2, 0, ix), (0, 2, (a : Int)), (1, 2, (sx : Int))] [] u.1 (zp_n u.2.1) := by
    intro hs1 hg sm ix
    refine zp_load (pc := 17) hx hb (zd_X7_wordIn (17, .iload 4, 2, 0, []) (List.mem_of_getElem? (i := 12) rfl)) rfl (j := 0) rfl ?_
    refine zp_load (pc := 19) hx hb (zd_X7_wordIn (19, .aload_n 1, 1, 0, []) (List.mem_of_getElem? (i := 13) rfl)) rfl (j := 4) rfl ?_
    refine zp_callS (pc := 20) (how := 0) (idx := 45) (mi := 47) (S := [(0, 4)]) hx hb hE hw heff hrm (zY_len hW (t := 207) (n := 3) (by decide) rfl (by decide)) rfl (j := 3) rfl rfl (by decide +kernel) (zd_X7_wordIn (20, .invokevirtual 45, 3, 0, []) (List.mem_of_getElem? (i := 14) rfl)) [(sx : Int)] rfl ⟨zp_o2 qs, trivial⟩ (Nat.le_of_ble_eq_true rfl) trivial (fun al hal rnl141 Pl141 Gl141 hextl141 hfrl141 hokl141 hcsl141 hpsil141 => ?_)
    obtain rfl := List.mem_singleton.mp hal
    have hrl141 := zp_int (hokl141 _ rfl).1
    obtain ⟨hPel141, hGel141, htl141⟩ := hpsil141
    rw [hPel141, hGel141]
    obtain rfl : rnl141 = 3 := htl141
    refine zp_icmp (pc := 23) (tgt := 112) hx hb (zd_X7_wordIn (23, .if_icmp .gt 89, 3, 0, []) (List.mem_of_getElem? (i := 15) rfl)) rfl (fun (hc142 : 3 < 4) => ?_) (fun (hc142 : ¬ (3 < 4)) => ?_)
    · refine zp_const (pc := 112) hx hb (zd_X7_wordIn (112, .iconst (-1), 1, 0, []) (List.mem_of_getElem? (i := 61) rfl)) rfl rfl ?_
      refine zp_iret (pc := 113) (n := (-1)) hx hb hE hQ hU5 rfl (by decide) (zd_X7_wordIn (113, .ireturn, 1, 0, []) (List.mem_of_getElem? (i := 62) rfl)) (j := 0) rfl (zp_o0 (by omega) (by omega) (by omega) (by omega)) ?_
      rw [hps]
      refine ⟨rfl, rfl, ?_⟩
      rw [← hso, if_pos hs1, ← hf, ← hq, ← hm]
      exact hg.symm
    · exfalso
      omega
  have loop : so = 1 → ∀ (n9 k : Nat), 4 - k < n9 → k ≤ 3 → zs_g za_an 3 (zBc B ln) f (m9 : Int) 0 = zs_g za_an 3 (zBc B ln) f (m9 : Int) k → zp_J p l e R s m args below meth c Q w u [] 17 [(4, 0, (k : Int)), (3, 0, (zs_sm za_an (zBc B ln) f k)), (2, 0, ((zs_ix za_an k : Nat) : Int)), (0, 2, (a : Int)), (1, 2, (sx : Int))] [] u.1 (zp_n u.2.1) := by
    intro hs1 n9
    induction n9 with
    | zero => intro k h; exact absurd h (Nat.not_lt_zero _)
    | succ n9 ih =>
      intro k hn hk hg
      have hsm := zs_sm_le (S := za_an) (B := zBc B ln) (st := f) k
      have hix := zs_ix_le (S := za_an) k
      obtain ⟨sm, hsm0⟩ : ∃ x : Int, x = zs_sm za_an (zBc B ln) f k := ⟨_, rfl⟩
      obtain ⟨ix, hix0⟩ : ∃ x : Nat, x = zs_ix za_an k := ⟨_, rfl⟩
      rw [← hsm0, ← hix0]
      rw [← hsm0] at hsm
      rw [← hix0] at hix
      have e1 : zs_sm za_an (zBc B ln) f (k + 1) = if za_an k = 32 then 0 else if sm ≠ -1 ∧ zBc B ln (f + sm.toNat) = za_an k then sm + 1 else -1 := by
        rw [hsm0]
        rfl
      have e2 : zs_ix za_an (k + 1) = if za_an k = 32 then ix + 1 else ix := by
        rw [hix0]
        rfl
      have go : ¬ ((k = 3 ∨ za_an k = 32) ∧ sm = (m9 : Int)) → zs_g za_an 3 (zBc B ln) f (m9 : Int) 0 = zs_g za_an 3 (zBc B ln) f (m9 : Int) (k + 1) := fun z => by
        rw [hg, zs_g_step hk, if_neg (by rw [← hsm0]; exact z)]
      refine zp_load (pc := 17) hx hb (zd_X7_wordIn (17, .iload 4, 2, 0, []) (List.mem_of_getElem? (i := 12) rfl)) rfl (j := 0) rfl ?_
      refine zp_load (pc := 19) hx hb (zd_X7_wordIn (19, .aload_n 1, 1, 0, []) (List.mem_of_getElem? (i := 13) rfl)) rfl (j := 4) rfl ?_
      refine zp_callS (pc := 20) (how := 0) (idx := 45) (mi := 47) (S := [(0, (k : Int))]) hx hb hE hw heff hrm (zY_len hW (t := 207) (n := 3) (by decide) rfl (by decide)) rfl (j := 3) rfl rfl (by decide +kernel) (zd_X7_wordIn (20, .invokevirtual 45, 3, 0, []) (List.mem_of_getElem? (i := 14) rfl)) [(sx : Int)] rfl ⟨zp_o2 qs, trivial⟩ (Nat.le_of_ble_eq_true rfl) trivial (fun al hal rnl143 Pl143 Gl143 hextl143 hfrl143 hokl143 hcsl143 hpsil143 => ?_)
      obtain rfl := List.mem_singleton.mp hal
      have hrl143 := zp_int (hokl143 _ rfl).1
      obtain ⟨hPel143, hGel143, htl143⟩ := hpsil143
      rw [hPel143, hGel143]
      obtain rfl : rnl143 = 3 := htl143
      refine zp_icmp (pc := 23) (tgt := 112) hx hb (zd_X7_wordIn (23, .if_icmp .gt 89, 3, 0, []) (List.mem_of_getElem? (i := 15) rfl)) rfl (fun (hc144 : 3 < (k : Int)) => ?_) (fun (hc144 : ¬ (3 < (k : Int))) => ?_)
      · refine zp_const (pc := 112) hx hb (zd_X7_wordIn (112, .iconst (-1), 1, 0, []) (List.mem_of_getElem? (i := 61) rfl)) rfl rfl ?_
        exfalso
        omega
      · refine zp_load (pc := 26) hx hb (zd_X7_wordIn (26, .iload 4, 2, 0, []) (List.mem_of_getElem? (i := 16) rfl)) rfl (j := 0) rfl ?_
        refine zp_load (pc := 28) hx hb (zd_X7_wordIn (28, .aload_n 1, 1, 0, []) (List.mem_of_getElem? (i := 17) rfl)) rfl (j := 4) rfl ?_
        refine zp_callS (pc := 29) (how := 0) (idx := 45) (mi := 47) (S := [(0, (k : Int))]) hx hb hE hw heff hrm (zY_len hW (t := 207) (n := 3) (by decide) rfl (by decide)) rfl (j := 3) rfl rfl (by decide +kernel) (zd_X7_wordIn (29, .invokevirtual 45, 3, 0, []) (List.mem_of_getElem? (i := 18) rfl)) [(sx : Int)] rfl ⟨zp_o2 qs, trivial⟩ (Nat.le_of_ble_eq_true rfl) trivial (fun al hal rnl145 Pl145 Gl145 hextl145 hfrl145 hokl145 hcsl145 hpsil145 => ?_)
        obtain rfl := List.mem_singleton.mp hal
        have hrl145 := zp_int (hokl145 _ rfl).1
        obtain ⟨hPel145, hGel145, htl145⟩ := hpsil145
        rw [hPel145, hGel145]
        obtain rfl : rnl145 = 3 := htl145
        refine zp_icmp (pc := 32) (tgt := 44) hx hb (zd_X7_wordIn (32, .if_icmp .ge 12, 3, 0, []) (List.mem_of_getElem? (i := 19) rfl)) rfl (fun (hc146 : 3 ≤ (k : Int)) => ?_) (fun (hc146 : ¬ (3 ≤ (k : Int))) => ?_)
        · refine zp_const (pc := 44) hx hb (zd_X7_wordIn (44, .bipush 32, 2, 0, []) (List.mem_of_getElem? (i := 24) rfl)) rfl rfl ?_
          refine zp_store (L' := [(5, 0, 32), (4, 0, (k : Int)), (3, 0, sm), (2, 0, (ix : Int)), (0, 2, (a : Int)), (1, 2, (sx : Int))]) (pc := 46) hx hb hnL (zd_X7_wordIn (46, .istore 5, 2, 0, []) (List.mem_of_getElem? (i := 25) rfl)) rfl rfl rfl ?_
          refine zp_load (pc := 48) hx hb (zd_X7_wordIn (48, .iload 5, 2, 0, []) (List.mem_of_getElem? (i := 26) rfl)) rfl (j := 0) rfl ?_
          refine zp_const (pc := 50) hx hb (zd_X7_wordIn (50, .bipush 32, 2, 0, []) (List.mem_of_getElem? (i := 27) rfl)) rfl rfl ?_
          refine zp_icmp (pc := 52) (tgt := 86) hx hb (zd_X7_wordIn (52, .if_icmp .eq 34, 3, 0, []) (List.mem_of_getElem? (i := 28) rfl)) rfl (fun (hc147 : 32 = 32) => ?_) (fun (hc147 : ¬ (32 = 32)) => ?_)
          · refine zp_load (pc := 86) hx hb (zd_X7_wordIn (86, .iload_n 3, 1, 0, []) (List.mem_of_getElem? (i := 47) rfl)) rfl (j := 2) rfl ?_
            refine zp_load (pc := 87) hx hb (zd_X7_wordIn (87, .aload_n 0, 1, 0, []) (List.mem_of_getElem? (i := 48) rfl)) rfl (j := 4) rfl ?_
            refine zp_getf (n := (q : Int)) (pc := 88) hx hb hE hw (zd_X7_wordIn (88, .getfield 19, 3, 0, []) (List.mem_of_getElem? (i := 49) rfl)) (j := 5) rfl rfl rfl hp c4 ?_
            refine zp_load (pc := 91) hx hb (zd_X7_wordIn (91, .aload_n 0, 1, 0, []) (List.mem_of_getElem? (i := 50) rfl)) rfl (j := 4) rfl ?_
            refine zp_getf (n := (f : Int)) (pc := 92) hx hb hE hw (zd_X7_wordIn (92, .getfield 29, 3, 0, []) (List.mem_of_getElem? (i := 51) rfl)) (j := 4) rfl rfl rfl hp c3 ?_
            refine zp_sub (n := ((q : Int) + (-1) * (f : Int))) (pc := 95) hx hb (zd_X7_wordIn (95, .isub, 1, 0, []) (List.mem_of_getElem? (i := 52) rfl)) (by omega) (zp_r0 (by omega) (by omega)) ?_
            refine zp_icmp (pc := 96) (tgt := 101) hx hb (zd_X7_wordIn (96, .if_icmp .ne 5, 3, 0, []) (List.mem_of_getElem? (i := 53) rfl)) rfl (fun (hc148 : ¬ sm = ((q : Int) + (-1) * (f : Int))) => ?_) (fun (hc148 : ¬ (¬ sm = ((q : Int) + (-1) * (f : Int)))) => ?_)
            · refine zp_iinc (L' := [(2, 0, ((ix : Int) + 1)), (5, 0, 32), (4, 0, (k : Int)), (3, 0, sm), (0, 2, (a : Int)), (1, 2, (sx : Int))]) (n := ((ix : Int) + 1)) (pc := 101) hx hb hnL (zd_X7_wordIn (101, .iinc 2 1, 3, 0, []) (List.mem_of_getElem? (i := 56) rfl)) (j := 3) rfl (by omega) (zp_r0 (by omega) (by omega)) rfl rfl ?_
              refine zp_const (pc := 104) hx hb (zd_X7_wordIn (104, .iconst 0, 1, 0, []) (List.mem_of_getElem? (i := 57) rfl)) rfl rfl ?_
              refine zp_store (L' := [(3, 0, 0), (2, 0, ((ix : Int) + 1)), (5, 0, 32), (4, 0, (k : Int)), (0, 2, (a : Int)), (1, 2, (sx : Int))]) (pc := 105) hx hb hnL (zd_X7_wordIn (105, .istore_n 3, 1, 0, []) (List.mem_of_getElem? (i := 58) rfl)) rfl rfl rfl ?_
              refine zp_iinc (L' := [(4, 0, ((k : Int) + 1)), (3, 0, 0), (2, 0, ((ix : Int) + 1)), (5, 0, 32), (0, 2, (a : Int)), (1, 2, (sx : Int))]) (n := ((k : Int) + 1)) (pc := 106) hx hb hnL (zd_X7_wordIn (106, .iinc 4 1, 3, 0, []) (List.mem_of_getElem? (i := 59) rfl)) (j := 3) rfl (by omega) (zp_r0 (by omega) (by omega)) rfl rfl ?_
              refine zp_goto (tgt := 17) (pc := 109) hx hb (zd_X7_wordIn (109, .goto (-92), 3, 0, []) (List.mem_of_getElem? (i := 60) rfl)) rfl ?_
              refine zp_drop (L' := [(4, 0, 4), (3, 0, 0), (2, 0, ((ix : Int) + 1)), (0, 2, (a : Int)), (1, 2, (sx : Int))]) (by simp <;> omega) ?_
              have hkn : k = 3 := by omega
              exact tail hs1 ((go (fun z => by omega)).trans (zs_g_end (by omega))) _ _
            · refine zp_load (pc := 99) hx hb (zd_X7_wordIn (99, .iload_n 2, 1, 0, []) (List.mem_of_getElem? (i := 54) rfl)) rfl (j := 3) rfl ?_
              refine zp_iret (pc := 100) (n := (ix : Int)) hx hb hE hQ hU5 rfl (by decide) (zd_X7_wordIn (100, .ireturn, 1, 0, []) (List.mem_of_getElem? (i := 55) rfl)) (j := 0) rfl (zp_o0 (by omega) (by omega) (by omega) (by omega)) ?_
              rw [hps]
              refine ⟨rfl, rfl, ?_⟩
              rw [← hso, if_pos hs1, ← hf, ← hq, ← hm, hg, zs_g_step hk, if_pos ⟨by omega, by rw [← hsm0]; omega⟩, ← hix0]
          · exfalso
            omega
        · refine zp_load (pc := 35) hx hb (zd_X7_wordIn (35, .aload_n 1, 1, 0, []) (List.mem_of_getElem? (i := 20) rfl)) rfl (j := 4) rfl ?_
          refine zp_load (pc := 36) hx hb (zd_X7_wordIn (36, .iload 4, 2, 0, []) (List.mem_of_getElem? (i := 21) rfl)) rfl (j := 0) rfl ?_
          refine zp_callS (pc := 38) (how := 0) (idx := 50) (mi := 49) (S := []) hx hb hE hw heff hrm (zY_chr hW (t := 207) (n := 3) (by decide) rfl (by decide)) rfl (j := 4) rfl rfl (by decide +kernel) (zd_X7_wordIn (38, .invokevirtual 50, 3, 0, []) (List.mem_of_getElem? (i := 22) rfl)) [(sx : Int), (k : Int)] rfl ⟨zp_o2 qs, zp_o0 (by omega) (by omega) (by omega) (by omega), trivial⟩ (Nat.le_of_ble_eq_true rfl) trivial (fun al hal rnc149 Pc149 Gc149 hextc149 hfrc149 hokc149 hcsc149 hpsic149 => ?_)
          obtain rfl := List.mem_singleton.mp hal
          have hrc149 := zp_int (hokc149 _ rfl).1
          obtain ⟨hPec149, hGec149, htc149⟩ := hpsic149
          rw [hPec149, hGec149]
          have hcc149 : rnc149 = za_an k := by
            refine htc149.trans ?_
            show zt_by (207 - 200) ((k : Int)).toNat = _
            rw [Int.toNat_natCast]
            exact hby k
          refine zp_goto (tgt := 46) (pc := 41) hx hb (zd_X7_wordIn (41, .goto 5, 3, 0, []) (List.mem_of_getElem? (i := 23) rfl)) rfl ?_
          refine zp_store (L' := [(5, 0, rnc149), (4, 0, (k : Int)), (3, 0, sm), (2, 0, (ix : Int)), (0, 2, (a : Int)), (1, 2, (sx : Int))]) (pc := 46) hx hb hnL (zd_X7_wordIn (46, .istore 5, 2, 0, []) (List.mem_of_getElem? (i := 25) rfl)) rfl rfl rfl ?_
          refine zp_load (pc := 48) hx hb (zd_X7_wordIn (48, .iload 5, 2, 0, []) (List.mem_of_getElem? (i := 26) rfl)) rfl (j := 0) rfl ?_
          refine zp_const (pc := 50) hx hb (zd_X7_wordIn (50, .bipush 32, 2, 0, []) (List.mem_of_getElem? (i := 27) rfl)) rfl rfl ?_
          refine zp_icmp (pc := 52) (tgt := 86) hx hb (zd_X7_wordIn (52, .if_icmp .eq 34, 3, 0, []) (List.mem_of_getElem? (i := 28) rfl)) rfl (fun (hc150 : rnc149 = 32) => ?_) (fun (hc150 : ¬ (rnc149 = 32)) => ?_)
          · refine zp_load (pc := 86) hx hb (zd_X7_wordIn (86, .iload_n 3, 1, 0, []) (List.mem_of_getElem? (i := 47) rfl)) rfl (j := 2) rfl ?_
            refine zp_load (pc := 87) hx hb (zd_X7_wordIn (87, .aload_n 0, 1, 0, []) (List.mem_of_getElem? (i := 48) rfl)) rfl (j := 4) rfl ?_
            refine zp_getf (n := (q : Int)) (pc := 88) hx hb hE hw (zd_X7_wordIn (88, .getfield 19, 3, 0, []) (List.mem_of_getElem? (i := 49) rfl)) (j := 5) rfl rfl rfl hp c4 ?_
            refine zp_load (pc := 91) hx hb (zd_X7_wordIn (91, .aload_n 0, 1, 0, []) (List.mem_of_getElem? (i := 50) rfl)) rfl (j := 4) rfl ?_
            refine zp_getf (n := (f : Int)) (pc := 92) hx hb hE hw (zd_X7_wordIn (92, .getfield 29, 3, 0, []) (List.mem_of_getElem? (i := 51) rfl)) (j := 4) rfl rfl rfl hp c3 ?_
            refine zp_sub (n := ((q : Int) + (-1) * (f : Int))) (pc := 95) hx hb (zd_X7_wordIn (95, .isub, 1, 0, []) (List.mem_of_getElem? (i := 52) rfl)) (by omega) (zp_r0 (by omega) (by omega)) ?_
            refine zp_icmp (pc := 96) (tgt := 101) hx hb (zd_X7_wordIn (96, .if_icmp .ne 5, 3, 0, []) (List.mem_of_getElem? (i := 53) rfl)) rfl (fun (hc151 : ¬ sm = ((q : Int) + (-1) * (f : Int))) => ?_) (fun (hc151 : ¬ (¬ sm = ((q : Int) + (-1) * (f : Int)))) => ?_)
            · refine zp_iinc (L' := [(2, 0, ((ix : Int) + 1)), (5, 0, rnc149), (4, 0, (k : Int)), (3, 0, sm), (0, 2, (a : Int)), (1, 2, (sx : Int))]) (n := ((ix : Int) + 1)) (pc := 101) hx hb hnL (zd_X7_wordIn (101, .iinc 2 1, 3, 0, []) (List.mem_of_getElem? (i := 56) rfl)) (j := 3) rfl (by omega) (zp_r0 (by omega) (by omega)) rfl rfl ?_
              refine zp_const (pc := 104) hx hb (zd_X7_wordIn (104, .iconst 0, 1, 0, []) (List.mem_of_getElem? (i := 57) rfl)) rfl rfl ?_
              refine zp_store (L' := [(3, 0, 0), (2, 0, ((ix : Int) + 1)), (5, 0, rnc149), (4, 0, (k : Int)), (0, 2, (a : Int)), (1, 2, (sx : Int))]) (pc := 105) hx hb hnL (zd_X7_wordIn (105, .istore_n 3, 1, 0, []) (List.mem_of_getElem? (i := 58) rfl)) rfl rfl rfl ?_
              refine zp_iinc (L' := [(4, 0, ((k : Int) + 1)), (3, 0, 0), (2, 0, ((ix : Int) + 1)), (5, 0, rnc149), (0, 2, (a : Int)), (1, 2, (sx : Int))]) (n := ((k : Int) + 1)) (pc := 106) hx hb hnL (zd_X7_wordIn (106, .iinc 4 1, 3, 0, []) (List.mem_of_getElem? (i := 59) rfl)) (j := 3) rfl (by omega) (zp_r0 (by omega) (by omega)) rfl rfl ?_
              refine zp_goto (tgt := 17) (pc := 109) hx hb (zd_X7_wordIn (109, .goto (-92), 3, 0, []) (List.mem_of_getElem? (i := 60) rfl)) rfl ?_
              refine zp_drop (L' := [(4, 0, ((k + 1 : Nat) : Int)), (3, 0, 0), (2, 0, ((ix + 1 : Nat) : Int)), (0, 2, (a : Int)), (1, 2, (sx : Int))]) (by simp <;> omega) ?_
              have ih9 := ih (k + 1) (by omega) (by omega) (go (fun z => by omega))
              rw [e1, e2] at ih9
              rw [if_pos (by omega), if_pos (by omega)] at ih9
              exact ih9
            · refine zp_load (pc := 99) hx hb (zd_X7_wordIn (99, .iload_n 2, 1, 0, []) (List.mem_of_getElem? (i := 54) rfl)) rfl (j := 3) rfl ?_
              refine zp_iret (pc := 100) (n := (ix : Int)) hx hb hE hQ hU5 rfl (by decide) (zd_X7_wordIn (100, .ireturn, 1, 0, []) (List.mem_of_getElem? (i := 55) rfl)) (j := 0) rfl (zp_o0 (by omega) (by omega) (by omega) (by omega)) ?_
              rw [hps]
              refine ⟨rfl, rfl, ?_⟩
              rw [← hso, if_pos hs1, ← hf, ← hq, ← hm, hg, zs_g_step hk, if_pos ⟨by omega, by rw [← hsm0]; omega⟩, ← hix0]
          · refine zp_load (pc := 55) hx hb (zd_X7_wordIn (55, .iload_n 3, 1, 0, []) (List.mem_of_getElem? (i := 29) rfl)) rfl (j := 2) rfl ?_
            refine zp_const (pc := 56) hx hb (zd_X7_wordIn (56, .iconst (-1), 1, 0, []) (List.mem_of_getElem? (i := 30) rfl)) rfl rfl ?_
            refine zp_icmp (pc := 57) (tgt := 81) hx hb (zd_X7_wordIn (57, .if_icmp .eq 24, 3, 0, []) (List.mem_of_getElem? (i := 31) rfl)) rfl (fun (hc152 : sm = (-1)) => ?_) (fun (hc152 : ¬ (sm = (-1))) => ?_)
            · refine zp_const (pc := 81) hx hb (zd_X7_wordIn (81, .iconst (-1), 1, 0, []) (List.mem_of_getElem? (i := 44) rfl)) rfl rfl ?_
              refine zp_store (L' := [(3, 0, (-1)), (5, 0, rnc149), (4, 0, (k : Int)), (2, 0, (ix : Int)), (0, 2, (a : Int)), (1, 2, (sx : Int))]) (pc := 82) hx hb hnL (zd_X7_wordIn (82, .istore_n 3, 1, 0, []) (List.mem_of_getElem? (i := 45) rfl)) rfl rfl rfl ?_
              refine zp_goto (tgt := 106) (pc := 83) hx hb (zd_X7_wordIn (83, .goto 23, 3, 0, []) (List.mem_of_getElem? (i := 46) rfl)) rfl ?_
              refine zp_iinc (L' := [(4, 0, ((k : Int) + 1)), (3, 0, (-1)), (5, 0, rnc149), (2, 0, (ix : Int)), (0, 2, (a : Int)), (1, 2, (sx : Int))]) (n := ((k : Int) + 1)) (pc := 106) hx hb hnL (zd_X7_wordIn (106, .iinc 4 1, 3, 0, []) (List.mem_of_getElem? (i := 59) rfl)) (j := 2) rfl (by omega) (zp_r0 (by omega) (by omega)) rfl rfl ?_
              refine zp_goto (tgt := 17) (pc := 109) hx hb (zd_X7_wordIn (109, .goto (-92), 3, 0, []) (List.mem_of_getElem? (i := 60) rfl)) rfl ?_
              refine zp_drop (L' := [(4, 0, ((k + 1 : Nat) : Int)), (3, 0, (-1)), (2, 0, (ix : Int)), (0, 2, (a : Int)), (1, 2, (sx : Int))]) (by simp <;> omega) ?_
              have ih9 := ih (k + 1) (by omega) (by omega) (go (fun z => by omega))
              rw [e1, e2] at ih9
              rw [if_neg (by omega), if_neg (by omega), if_neg (by omega)] at ih9
              exact ih9
            · refine zp_load (pc := 60) hx hb (zd_X7_wordIn (60, .aload_n 0, 1, 0, []) (List.mem_of_getElem? (i := 32) rfl)) rfl (j := 4) rfl ?_
              refine zp_load (pc := 61) hx hb (zd_X7_wordIn (61, .aload_n 0, 1, 0, []) (List.mem_of_getElem? (i := 33) rfl)) rfl (j := 4) rfl ?_
              refine zp_getf (n := (f : Int)) (pc := 62) hx hb hE hw (zd_X7_wordIn (62, .getfield 29, 3, 0, []) (List.mem_of_getElem? (i := 34) rfl)) (j := 4) rfl rfl rfl hp c3 ?_
              refine zp_load (pc := 65) hx hb (zd_X7_wordIn (65, .iload_n 3, 1, 0, []) (List.mem_of_getElem? (i := 35) rfl)) rfl (j := 2) rfl ?_
              refine zp_add (n := ((f : Int) + sm)) (pc := 66) hx hb (zd_X7_wordIn (66, .iadd, 1, 0, []) (List.mem_of_getElem? (i := 36) rfl)) (by omega) (zp_r0 (by omega) (by omega)) ?_
              refine zp_call (pc := 67) (how := 0) (idx := 25) (mi := 37) (S := []) hx hb hE hw heff hrm (zX_bya hW) rfl (j := 1) rfl rfl (by decide +kernel) (zd_X7_wordIn (67, .invokevirtual 25, 3, 0, []) (List.mem_of_getElem? (i := 37) rfl)) [(a : Int), ((f : Int) + sm)] rfl ⟨zp_o2 hp, zp_o0 (by omega) (by omega) (by omega) (by omega), trivial⟩ (Nat.le_of_ble_eq_true rfl) trivial (fun al hal rnb153 Pb153 Gb153 hextb153 hfrb153 hokb153 hcsb153 hpsib153 => ?_)
              obtain rfl := List.mem_singleton.mp hal
              have hrb153 := zp_int (hokb153 _ rfl).1
              obtain ⟨hPeb153, hGeb153, htb153⟩ := hpsib153
              rw [hPeb153, hGeb153]
              have hvb153 : rnb153 = zBc B ln (f + sm.toNat) := by
                have h9 := htb153 (f + sm.toNat) (show ((f : Int) + sm) = ((f + sm.toNat : Nat) : Int) by omega)
                unfold zBc
                by_cases z : f + sm.toNat < ln
                · rw [if_pos z]
                  refine (h9.1 (show ((f + sm.toNat : Nat) : Int) < zp_n u.2.1 a 1 by rw [t1]; omega)).trans ?_
                  show zp_n u.2.1 (zp_n u.2.1 a 0).toNat (2000 + (f + sm.toNat)) = _
                  rw [t0, Int.toNat_natCast]
                  exact t3 _
                · rw [if_neg z]
                  exact h9.2 (show ¬ ((f + sm.toNat : Nat) : Int) < zp_n u.2.1 a 1 by rw [t1]; omega)
              refine zp_load (pc := 70) hx hb (zd_X7_wordIn (70, .iload 5, 2, 0, []) (List.mem_of_getElem? (i := 38) rfl)) rfl (j := 0) rfl ?_
              refine zp_icmp (pc := 72) (tgt := 81) hx hb (zd_X7_wordIn (72, .if_icmp .ne 9, 3, 0, []) (List.mem_of_getElem? (i := 39) rfl)) rfl (fun (hc154 : ¬ rnb153 = rnc149) => ?_) (fun (hc154 : ¬ (¬ rnb153 = rnc149)) => ?_)
              · refine zp_const (pc := 81) hx hb (zd_X7_wordIn (81, .iconst (-1), 1, 0, []) (List.mem_of_getElem? (i := 44) rfl)) rfl rfl ?_
                refine zp_store (L' := [(3, 0, (-1)), (5, 0, rnc149), (4, 0, (k : Int)), (2, 0, (ix : Int)), (0, 2, (a : Int)), (1, 2, (sx : Int))]) (pc := 82) hx hb hnL (zd_X7_wordIn (82, .istore_n 3, 1, 0, []) (List.mem_of_getElem? (i := 45) rfl)) rfl rfl rfl ?_
                refine zp_goto (tgt := 106) (pc := 83) hx hb (zd_X7_wordIn (83, .goto 23, 3, 0, []) (List.mem_of_getElem? (i := 46) rfl)) rfl ?_
                refine zp_iinc (L' := [(4, 0, ((k : Int) + 1)), (3, 0, (-1)), (5, 0, rnc149), (2, 0, (ix : Int)), (0, 2, (a : Int)), (1, 2, (sx : Int))]) (n := ((k : Int) + 1)) (pc := 106) hx hb hnL (zd_X7_wordIn (106, .iinc 4 1, 3, 0, []) (List.mem_of_getElem? (i := 59) rfl)) (j := 2) rfl (by omega) (zp_r0 (by omega) (by omega)) rfl rfl ?_
                refine zp_goto (tgt := 17) (pc := 109) hx hb (zd_X7_wordIn (109, .goto (-92), 3, 0, []) (List.mem_of_getElem? (i := 60) rfl)) rfl ?_
                refine zp_drop (L' := [(4, 0, ((k + 1 : Nat) : Int)), (3, 0, (-1)), (2, 0, (ix : Int)), (0, 2, (a : Int)), (1, 2, (sx : Int))]) (by simp <;> omega) ?_
                have ih9 := ih (k + 1) (by omega) (by omega) (go (fun z => by omega))
                rw [e1, e2] at ih9
                rw [if_neg (by omega), if_neg (by omega), if_neg (by omega)] at ih9
                exact ih9
              · refine zp_load (pc := 75) hx hb (zd_X7_wordIn (75, .iload_n 3, 1, 0, []) (List.mem_of_getElem? (i := 40) rfl)) rfl (j := 2) rfl ?_
                refine zp_const (pc := 76) hx hb (zd_X7_wordIn (76, .iconst 1, 1, 0, []) (List.mem_of_getElem? (i := 41) rfl)) rfl rfl ?_
                refine zp_add (n := (sm + 1)) (pc := 77) hx hb (zd_X7_wordIn (77, .iadd, 1, 0, []) (List.mem_of_getElem? (i := 42) rfl)) (by omega) (zp_r0 (by omega) (by omega)) ?_
                refine zp_goto (tgt := 82) (pc := 78) hx hb (zd_X7_wordIn (78, .goto 4, 3, 0, []) (List.mem_of_getElem? (i := 43) rfl)) rfl ?_
                refine zp_store (L' := [(3, 0, (sm + 1)), (5, 0, rnc149), (4, 0, (k : Int)), (2, 0, (ix : Int)), (0, 2, (a : Int)), (1, 2, (sx : Int))]) (pc := 82) hx hb hnL (zd_X7_wordIn (82, .istore_n 3, 1, 0, []) (List.mem_of_getElem? (i := 45) rfl)) rfl rfl rfl ?_
                refine zp_goto (tgt := 106) (pc := 83) hx hb (zd_X7_wordIn (83, .goto 23, 3, 0, []) (List.mem_of_getElem? (i := 46) rfl)) rfl ?_
                refine zp_iinc (L' := [(4, 0, ((k : Int) + 1)), (3, 0, (sm + 1)), (5, 0, rnc149), (2, 0, (ix : Int)), (0, 2, (a : Int)), (1, 2, (sx : Int))]) (n := ((k : Int) + 1)) (pc := 106) hx hb hnL (zd_X7_wordIn (106, .iinc 4 1, 3, 0, []) (List.mem_of_getElem? (i := 59) rfl)) (j := 2) rfl (by omega) (zp_r0 (by omega) (by omega)) rfl rfl ?_
                refine zp_goto (tgt := 17) (pc := 109) hx hb (zd_X7_wordIn (109, .goto (-92), 3, 0, []) (List.mem_of_getElem? (i := 60) rfl)) rfl ?_
                refine zp_drop (L' := [(4, 0, ((k + 1 : Nat) : Int)), (3, 0, (sm + 1)), (2, 0, (ix : Int)), (0, 2, (a : Int)), (1, 2, (sx : Int))]) (by simp <;> omega) ?_
                have ih9 := ih (k + 1) (by omega) (by omega) (go (fun z => by omega))
                rw [e1, e2] at ih9
                rw [if_neg (by omega), if_pos ⟨by omega, by omega⟩, if_neg (by omega)] at ih9
                exact ih9
  refine zp_load (pc := 0) hx hb (zd_X7_wordIn (0, .aload_n 0, 1, 0, []) (List.mem_of_getElem? (i := 0) rfl)) rfl (j := 0) rfl ?_
  refine zp_getf (n := (so : Int)) (pc := 1) hx hb hE hw (zd_X7_wordIn (1, .getfield 35, 3, 0, []) (List.mem_of_getElem? (i := 1) rfl)) (j := 3) rfl rfl rfl hp c2 ?_
  refine zp_const (pc := 4) hx hb (zd_X7_wordIn (4, .iconst 1, 1, 0, []) (List.mem_of_getElem? (i := 2) rfl)) rfl rfl ?_
  refine zp_icmp (pc := 5) (tgt := 10) hx hb (zd_X7_wordIn (5, .if_icmp .eq 5, 3, 0, []) (List.mem_of_getElem? (i := 3) rfl)) rfl (fun (hc155 : (so : Int) = 1) => ?_) (fun (hc155 : ¬ ((so : Int) = 1)) => ?_)
  · refine zp_const (pc := 10) hx hb (zd_X7_wordIn (10, .iconst 0, 1, 0, []) (List.mem_of_getElem? (i := 6) rfl)) rfl rfl ?_
    refine zp_store (L' := [(2, 0, 0), (0, 2, (a : Int)), (1, 2, (sx : Int))]) (pc := 11) hx hb hnL (zd_X7_wordIn (11, .istore_n 2, 1, 0, []) (List.mem_of_getElem? (i := 7) rfl)) rfl rfl rfl ?_
    refine zp_const (pc := 12) hx hb (zd_X7_wordIn (12, .iconst 0, 1, 0, []) (List.mem_of_getElem? (i := 8) rfl)) rfl rfl ?_
    refine zp_store (L' := [(3, 0, 0), (2, 0, 0), (0, 2, (a : Int)), (1, 2, (sx : Int))]) (pc := 13) hx hb hnL (zd_X7_wordIn (13, .istore_n 3, 1, 0, []) (List.mem_of_getElem? (i := 9) rfl)) rfl rfl rfl ?_
    refine zp_const (pc := 14) hx hb (zd_X7_wordIn (14, .iconst 0, 1, 0, []) (List.mem_of_getElem? (i := 10) rfl)) rfl rfl ?_
    refine zp_store (L' := [(4, 0, 0), (3, 0, 0), (2, 0, 0), (0, 2, (a : Int)), (1, 2, (sx : Int))]) (pc := 15) hx hb hnL (zd_X7_wordIn (15, .istore 4, 2, 0, []) (List.mem_of_getElem? (i := 11) rfl)) rfl rfl rfl ?_
    have h9 := loop (by omega) 5 0 (by omega) (by omega) rfl
    exact h9
  · refine zp_const (pc := 8) hx hb (zd_X7_wordIn (8, .iconst (-1), 1, 0, []) (List.mem_of_getElem? (i := 4) rfl)) rfl rfl ?_
    refine zp_iret (pc := 9) (n := (-1)) hx hb hE hQ hU5 rfl (by decide) (zd_X7_wordIn (9, .ireturn, 1, 0, []) (List.mem_of_getElem? (i := 5) rfl)) (j := 0) rfl (zp_o0 (by omega) (by omega) (by omega) (by omega)) ?_
    rw [hps]
    refine ⟨rfl, rfl, ?_⟩
    rw [← hso, if_neg (by omega)]
noncomputable def zK_vwor : zk_K := (zt_mn 46, prog_9_method_10_code, 6, (Option.some Jvm.ClassFile.FieldType.int), 1, 7, [(2, 7, 0, 0), (2, 208, 0, 0)], [(some (0, 0, (-1), 400), [])], [], (9, 221, 0, 0))
noncomputable def zφ_vwor (b : Nat) (B : Nat → Int) (ln tk : Nat) : (Nat → Option Nat) → (Nat → Nat → Int) → List Int → Prop := fun P G ps => zTt (zp_0 ps) b G B ln tk
noncomputable def zψ_vwor (b : Nat) (B : Nat → Int) (ln tk : Nat) : (Nat → Option Nat) → (Nat → Nat → Int) → List Int → (Nat → Option Nat) → (Nat → Nat → Int) → Int → Prop := fun P G ps P' G' rn => P' = P ∧ G' = G ∧ rn = if zy_so B ln tk = 1 then zs_g za_or 2 (zBc B ln) (zy_fr B ln tk) ((zy_to B ln tk - zy_fr B ln tk : Nat) : Int) 0 else -1
theorem zX_vwor {l : Launch} {w : zk_W} (hW : zh_W w) (b : Nat) (B : Nat → Int) (ln tk : Nat) : zk_metX l w zt_dv zt_TB zK_vwor (zp_A (zφ_vwor b B ln tk)) (zp_B (zψ_vwor b B ln tk)) ∧ zk_cok w zt_TB zK_vwor := by
  refine zp_methX (cn := "WoundTown$Tape") zp_lkallT9 hW (pl := 733) rfl (by decide +kernel) (fun p e R s m args below meth c Q u hx hb hE hQ hU5 heff hnL hok hφ => ?_)
  have hw := hW.1
  obtain ⟨p0, p1, hps, k0, k1⟩ := zp_ps2 hok
  obtain ⟨a, rfl, hp⟩ := zp_this k0
  have hrm : zk_Kr (zk_ev (zt_types, zp_lkT9, zt_dv, [], [], zp_lcT9, zK_vwor)) = zk_Kr zK_vwor := rfl
  rw [hps] at hφ ⊢
  show zp_J p l e R s m args below meth c Q w u [] 0 [(0, 2, (a : Int)), (1, 2, p1)] [] u.1 (zp_n u.2.1)
  obtain ⟨sx, rfl, qs⟩ := zp_this k1
  have hT : zTt a b (zp_n u.2.1) B ln tk := hφ
  have hlen := zTt_len hT
  obtain ⟨⟨t0, t1, t2, t3⟩, t5, t6, c2, c3, c4, c5⟩ := hT
  obtain ⟨so, hso⟩ : ∃ x : Nat, x = zy_so B ln tk := ⟨_, rfl⟩
  obtain ⟨f, hf⟩ : ∃ x : Nat, x = zy_fr B ln tk := ⟨_, rfl⟩
  obtain ⟨q, hq⟩ : ∃ x : Nat, x = zy_to B ln tk := ⟨_, rfl⟩
  rw [← hso] at c2
  rw [← hf] at c3 hlen
  rw [← hq] at c4 hlen
  obtain ⟨m9, hm⟩ : ∃ x : Nat, x = q - f := ⟨_, rfl⟩
  have hby : ∀ j, zt_by 8 j = za_or j := fun j => rfl
  have tail : so = 1 → zs_g za_or 2 (zBc B ln) f (m9 : Int) 0 = -1 → ∀ (sm ix : Int), zp_J p l e R s m args below meth c Q w u [] 17 [(4, 0, 3), (3, 0, sm), (2, 0, ix), (0, 2, (a : Int)), (1, 2, (sx : Int))] [] u.1 (zp_n u.2.1) := by
    intro hs1 hg sm ix
    refine zp_load (pc := 17) hx hb (zd_X7_wordIn (17, .iload 4, 2, 0, []) (List.mem_of_getElem? (i := 12) rfl)) rfl (j := 0) rfl ?_
    refine zp_load (pc := 19) hx hb (zd_X7_wordIn (19, .aload_n 1, 1, 0, []) (List.mem_of_getElem? (i := 13) rfl)) rfl (j := 4) rfl ?_
    refine zp_callS (pc := 20) (how := 0) (idx := 45) (mi := 47) (S := [(0, 3)]) hx hb hE hw heff hrm (zY_len hW (t := 208) (n := 2) (by decide) rfl (by decide)) rfl (j := 3) rfl rfl (by decide +kernel) (zd_X7_wordIn (20, .invokevirtual 45, 3, 0, []) (List.mem_of_getElem? (i := 14) rfl)) [(sx : Int)] rfl ⟨zp_o2 qs, trivial⟩ (Nat.le_of_ble_eq_true rfl) trivial (fun al hal rnl156 Pl156 Gl156 hextl156 hfrl156 hokl156 hcsl156 hpsil156 => ?_)
    obtain rfl := List.mem_singleton.mp hal
    have hrl156 := zp_int (hokl156 _ rfl).1
    obtain ⟨hPel156, hGel156, htl156⟩ := hpsil156
    rw [hPel156, hGel156]
    obtain rfl : rnl156 = 2 := htl156
    refine zp_icmp (pc := 23) (tgt := 112) hx hb (zd_X7_wordIn (23, .if_icmp .gt 89, 3, 0, []) (List.mem_of_getElem? (i := 15) rfl)) rfl (fun (hc157 : 2 < 3) => ?_) (fun (hc157 : ¬ (2 < 3)) => ?_)
    · refine zp_const (pc := 112) hx hb (zd_X7_wordIn (112, .iconst (-1), 1, 0, []) (List.mem_of_getElem? (i := 61) rfl)) rfl rfl ?_
      refine zp_iret (pc := 113) (n := (-1)) hx hb hE hQ hU5 rfl (by decide) (zd_X7_wordIn (113, .ireturn, 1, 0, []) (List.mem_of_getElem? (i := 62) rfl)) (j := 0) rfl (zp_o0 (by omega) (by omega) (by omega) (by omega)) ?_
      rw [hps]
      refine ⟨rfl, rfl, ?_⟩
      rw [← hso, if_pos hs1, ← hf, ← hq, ← hm]
      exact hg.symm
    · exfalso
      omega
  have loop : so = 1 → ∀ (n9 k : Nat), 3 - k < n9 → k ≤ 2 → zs_g za_or 2 (zBc B ln) f (m9 : Int) 0 = zs_g za_or 2 (zBc B ln) f (m9 : Int) k → zp_J p l e R s m args below meth c Q w u [] 17 [(4, 0, (k : Int)), (3, 0, (zs_sm za_or (zBc B ln) f k)), (2, 0, ((zs_ix za_or k : Nat) : Int)), (0, 2, (a : Int)), (1, 2, (sx : Int))] [] u.1 (zp_n u.2.1) := by
    intro hs1 n9
    induction n9 with
    | zero => intro k h; exact absurd h (Nat.not_lt_zero _)
    | succ n9 ih =>
      intro k hn hk hg
      have hsm := zs_sm_le (S := za_or) (B := zBc B ln) (st := f) k
      have hix := zs_ix_le (S := za_or) k
      obtain ⟨sm, hsm0⟩ : ∃ x : Int, x = zs_sm za_or (zBc B ln) f k := ⟨_, rfl⟩
      obtain ⟨ix, hix0⟩ : ∃ x : Nat, x = zs_ix za_or k := ⟨_, rfl⟩
      rw [← hsm0, ← hix0]
      rw [← hsm0] at hsm
      rw [← hix0] at hix
      have e1 : zs_sm za_or (zBc B ln) f (k + 1) = if za_or k = 32 then 0 else if sm ≠ -1 ∧ zBc B ln (f + sm.toNat) = za_or k then sm + 1 else -1 := by
        rw [hsm0]
        rfl
      have e2 : zs_ix za_or (k + 1) = if za_or k = 32 then ix + 1 else ix := by
        rw [hix0]
        rfl
      have go : ¬ ((k = 2 ∨ za_or k = 32) ∧ sm = (m9 : Int)) → zs_g za_or 2 (zBc B ln) f (m9 : Int) 0 = zs_g za_or 2 (zBc B ln) f (m9 : Int) (k + 1) := fun z => by
        rw [hg, zs_g_step hk, if_neg (by rw [← hsm0]; exact z)]
      refine zp_load (pc := 17) hx hb (zd_X7_wordIn (17, .iload 4, 2, 0, []) (List.mem_of_getElem? (i := 12) rfl)) rfl (j := 0) rfl ?_
      refine zp_load (pc := 19) hx hb (zd_X7_wordIn (19, .aload_n 1, 1, 0, []) (List.mem_of_getElem? (i := 13) rfl)) rfl (j := 4) rfl ?_
      refine zp_callS (pc := 20) (how := 0) (idx := 45) (mi := 47) (S := [(0, (k : Int))]) hx hb hE hw heff hrm (zY_len hW (t := 208) (n := 2) (by decide) rfl (by decide)) rfl (j := 3) rfl rfl (by decide +kernel) (zd_X7_wordIn (20, .invokevirtual 45, 3, 0, []) (List.mem_of_getElem? (i := 14) rfl)) [(sx : Int)] rfl ⟨zp_o2 qs, trivial⟩ (Nat.le_of_ble_eq_true rfl) trivial (fun al hal rnl158 Pl158 Gl158 hextl158 hfrl158 hokl158 hcsl158 hpsil158 => ?_)
      obtain rfl := List.mem_singleton.mp hal
      have hrl158 := zp_int (hokl158 _ rfl).1
      obtain ⟨hPel158, hGel158, htl158⟩ := hpsil158
      rw [hPel158, hGel158]
      obtain rfl : rnl158 = 2 := htl158
      refine zp_icmp (pc := 23) (tgt := 112) hx hb (zd_X7_wordIn (23, .if_icmp .gt 89, 3, 0, []) (List.mem_of_getElem? (i := 15) rfl)) rfl (fun (hc159 : 2 < (k : Int)) => ?_) (fun (hc159 : ¬ (2 < (k : Int))) => ?_)
      · refine zp_const (pc := 112) hx hb (zd_X7_wordIn (112, .iconst (-1), 1, 0, []) (List.mem_of_getElem? (i := 61) rfl)) rfl rfl ?_
        exfalso
        omega
      · refine zp_load (pc := 26) hx hb (zd_X7_wordIn (26, .iload 4, 2, 0, []) (List.mem_of_getElem? (i := 16) rfl)) rfl (j := 0) rfl ?_
        refine zp_load (pc := 28) hx hb (zd_X7_wordIn (28, .aload_n 1, 1, 0, []) (List.mem_of_getElem? (i := 17) rfl)) rfl (j := 4) rfl ?_
        refine zp_callS (pc := 29) (how := 0) (idx := 45) (mi := 47) (S := [(0, (k : Int))]) hx hb hE hw heff hrm (zY_len hW (t := 208) (n := 2) (by decide) rfl (by decide)) rfl (j := 3) rfl rfl (by decide +kernel) (zd_X7_wordIn (29, .invokevirtual 45, 3, 0, []) (List.mem_of_getElem? (i := 18) rfl)) [(sx : Int)] rfl ⟨zp_o2 qs, trivial⟩ (Nat.le_of_ble_eq_true rfl) trivial (fun al hal rnl160 Pl160 Gl160 hextl160 hfrl160 hokl160 hcsl160 hpsil160 => ?_)
        obtain rfl := List.mem_singleton.mp hal
        have hrl160 := zp_int (hokl160 _ rfl).1
        obtain ⟨hPel160, hGel160, htl160⟩ := hpsil160
        rw [hPel160, hGel160]
        obtain rfl : rnl160 = 2 := htl160
        refine zp_icmp (pc := 32) (tgt := 44) hx hb (zd_X7_wordIn (32, .if_icmp .ge 12, 3, 0, []) (List.mem_of_getElem? (i := 19) rfl)) rfl (fun (hc161 : 2 ≤ (k : Int)) => ?_) (fun (hc161 : ¬ (2 ≤ (k : Int))) => ?_)
        · refine zp_const (pc := 44) hx hb (zd_X7_wordIn (44, .bipush 32, 2, 0, []) (List.mem_of_getElem? (i := 24) rfl)) rfl rfl ?_
          refine zp_store (L' := [(5, 0, 32), (4, 0, (k : Int)), (3, 0, sm), (2, 0, (ix : Int)), (0, 2, (a : Int)), (1, 2, (sx : Int))]) (pc := 46) hx hb hnL (zd_X7_wordIn (46, .istore 5, 2, 0, []) (List.mem_of_getElem? (i := 25) rfl)) rfl rfl rfl ?_
          refine zp_load (pc := 48) hx hb (zd_X7_wordIn (48, .iload 5, 2, 0, []) (List.mem_of_getElem? (i := 26) rfl)) rfl (j := 0) rfl ?_
          refine zp_const (pc := 50) hx hb (zd_X7_wordIn (50, .bipush 32, 2, 0, []) (List.mem_of_getElem? (i := 27) rfl)) rfl rfl ?_
          refine zp_icmp (pc := 52) (tgt := 86) hx hb (zd_X7_wordIn (52, .if_icmp .eq 34, 3, 0, []) (List.mem_of_getElem? (i := 28) rfl)) rfl (fun (hc162 : 32 = 32) => ?_) (fun (hc162 : ¬ (32 = 32)) => ?_)
          · refine zp_load (pc := 86) hx hb (zd_X7_wordIn (86, .iload_n 3, 1, 0, []) (List.mem_of_getElem? (i := 47) rfl)) rfl (j := 2) rfl ?_
            refine zp_load (pc := 87) hx hb (zd_X7_wordIn (87, .aload_n 0, 1, 0, []) (List.mem_of_getElem? (i := 48) rfl)) rfl (j := 4) rfl ?_
            refine zp_getf (n := (q : Int)) (pc := 88) hx hb hE hw (zd_X7_wordIn (88, .getfield 19, 3, 0, []) (List.mem_of_getElem? (i := 49) rfl)) (j := 5) rfl rfl rfl hp c4 ?_
            refine zp_load (pc := 91) hx hb (zd_X7_wordIn (91, .aload_n 0, 1, 0, []) (List.mem_of_getElem? (i := 50) rfl)) rfl (j := 4) rfl ?_
            refine zp_getf (n := (f : Int)) (pc := 92) hx hb hE hw (zd_X7_wordIn (92, .getfield 29, 3, 0, []) (List.mem_of_getElem? (i := 51) rfl)) (j := 4) rfl rfl rfl hp c3 ?_
            refine zp_sub (n := ((q : Int) + (-1) * (f : Int))) (pc := 95) hx hb (zd_X7_wordIn (95, .isub, 1, 0, []) (List.mem_of_getElem? (i := 52) rfl)) (by omega) (zp_r0 (by omega) (by omega)) ?_
            refine zp_icmp (pc := 96) (tgt := 101) hx hb (zd_X7_wordIn (96, .if_icmp .ne 5, 3, 0, []) (List.mem_of_getElem? (i := 53) rfl)) rfl (fun (hc163 : ¬ sm = ((q : Int) + (-1) * (f : Int))) => ?_) (fun (hc163 : ¬ (¬ sm = ((q : Int) + (-1) * (f : Int)))) => ?_)
            · refine zp_iinc (L' := [(2, 0, ((ix : Int) + 1)), (5, 0, 32), (4, 0, (k : Int)), (3, 0, sm), (0, 2, (a : Int)), (1, 2, (sx : Int))]) (n := ((ix : Int) + 1)) (pc := 101) hx hb hnL (zd_X7_wordIn (101, .iinc 2 1, 3, 0, []) (List.mem_of_getElem? (i := 56) rfl)) (j := 3) rfl (by omega) (zp_r0 (by omega) (by omega)) rfl rfl ?_
              refine zp_const (pc := 104) hx hb (zd_X7_wordIn (104, .iconst 0, 1, 0, []) (List.mem_of_getElem? (i := 57) rfl)) rfl rfl ?_
              refine zp_store (L' := [(3, 0, 0), (2, 0, ((ix : Int) + 1)), (5, 0, 32), (4, 0, (k : Int)), (0, 2, (a : Int)), (1, 2, (sx : Int))]) (pc := 105) hx hb hnL (zd_X7_wordIn (105, .istore_n 3, 1, 0, []) (List.mem_of_getElem? (i := 58) rfl)) rfl rfl rfl ?_
              refine zp_iinc (L' := [(4, 0, ((k : Int) + 1)), (3, 0, 0), (2, 0, ((ix : Int) + 1)), (5, 0, 32), (0, 2, (a : Int)), (1, 2, (sx : Int))]) (n := ((k : Int) + 1)) (pc := 106) hx hb hnL (zd_X7_wordIn (106, .iinc 4 1, 3, 0, []) (List.mem_of_getElem? (i := 59) rfl)) (j := 3) rfl (by omega) (zp_r0 (by omega) (by omega)) rfl rfl ?_
              refine zp_goto (tgt := 17) (pc := 109) hx hb (zd_X7_wordIn (109, .goto (-92), 3, 0, []) (List.mem_of_getElem? (i := 60) rfl)) rfl ?_
              refine zp_drop (L' := [(4, 0, 3), (3, 0, 0), (2, 0, ((ix : Int) + 1)), (0, 2, (a : Int)), (1, 2, (sx : Int))]) (by simp <;> omega) ?_
              have hkn : k = 2 := by omega
              exact tail hs1 ((go (fun z => by omega)).trans (zs_g_end (by omega))) _ _
            · refine zp_load (pc := 99) hx hb (zd_X7_wordIn (99, .iload_n 2, 1, 0, []) (List.mem_of_getElem? (i := 54) rfl)) rfl (j := 3) rfl ?_
              refine zp_iret (pc := 100) (n := (ix : Int)) hx hb hE hQ hU5 rfl (by decide) (zd_X7_wordIn (100, .ireturn, 1, 0, []) (List.mem_of_getElem? (i := 55) rfl)) (j := 0) rfl (zp_o0 (by omega) (by omega) (by omega) (by omega)) ?_
              rw [hps]
              refine ⟨rfl, rfl, ?_⟩
              rw [← hso, if_pos hs1, ← hf, ← hq, ← hm, hg, zs_g_step hk, if_pos ⟨by omega, by rw [← hsm0]; omega⟩, ← hix0]
          · exfalso
            omega
        · refine zp_load (pc := 35) hx hb (zd_X7_wordIn (35, .aload_n 1, 1, 0, []) (List.mem_of_getElem? (i := 20) rfl)) rfl (j := 4) rfl ?_
          refine zp_load (pc := 36) hx hb (zd_X7_wordIn (36, .iload 4, 2, 0, []) (List.mem_of_getElem? (i := 21) rfl)) rfl (j := 0) rfl ?_
          refine zp_callS (pc := 38) (how := 0) (idx := 50) (mi := 49) (S := []) hx hb hE hw heff hrm (zY_chr hW (t := 208) (n := 2) (by decide) rfl (by decide)) rfl (j := 4) rfl rfl (by decide +kernel) (zd_X7_wordIn (38, .invokevirtual 50, 3, 0, []) (List.mem_of_getElem? (i := 22) rfl)) [(sx : Int), (k : Int)] rfl ⟨zp_o2 qs, zp_o0 (by omega) (by omega) (by omega) (by omega), trivial⟩ (Nat.le_of_ble_eq_true rfl) trivial (fun al hal rnc164 Pc164 Gc164 hextc164 hfrc164 hokc164 hcsc164 hpsic164 => ?_)
          obtain rfl := List.mem_singleton.mp hal
          have hrc164 := zp_int (hokc164 _ rfl).1
          obtain ⟨hPec164, hGec164, htc164⟩ := hpsic164
          rw [hPec164, hGec164]
          have hcc164 : rnc164 = za_or k := by
            refine htc164.trans ?_
            show zt_by (208 - 200) ((k : Int)).toNat = _
            rw [Int.toNat_natCast]
            exact hby k
          refine zp_goto (tgt := 46) (pc := 41) hx hb (zd_X7_wordIn (41, .goto 5, 3, 0, []) (List.mem_of_getElem? (i := 23) rfl)) rfl ?_
          refine zp_store (L' := [(5, 0, rnc164), (4, 0, (k : Int)), (3, 0, sm), (2, 0, (ix : Int)), (0, 2, (a : Int)), (1, 2, (sx : Int))]) (pc := 46) hx hb hnL (zd_X7_wordIn (46, .istore 5, 2, 0, []) (List.mem_of_getElem? (i := 25) rfl)) rfl rfl rfl ?_
          refine zp_load (pc := 48) hx hb (zd_X7_wordIn (48, .iload 5, 2, 0, []) (List.mem_of_getElem? (i := 26) rfl)) rfl (j := 0) rfl ?_
          refine zp_const (pc := 50) hx hb (zd_X7_wordIn (50, .bipush 32, 2, 0, []) (List.mem_of_getElem? (i := 27) rfl)) rfl rfl ?_
          refine zp_icmp (pc := 52) (tgt := 86) hx hb (zd_X7_wordIn (52, .if_icmp .eq 34, 3, 0, []) (List.mem_of_getElem? (i := 28) rfl)) rfl (fun (hc165 : rnc164 = 32) => ?_) (fun (hc165 : ¬ (rnc164 = 32)) => ?_)
          · refine zp_load (pc := 86) hx hb (zd_X7_wordIn (86, .iload_n 3, 1, 0, []) (List.mem_of_getElem? (i := 47) rfl)) rfl (j := 2) rfl ?_
            refine zp_load (pc := 87) hx hb (zd_X7_wordIn (87, .aload_n 0, 1, 0, []) (List.mem_of_getElem? (i := 48) rfl)) rfl (j := 4) rfl ?_
            refine zp_getf (n := (q : Int)) (pc := 88) hx hb hE hw (zd_X7_wordIn (88, .getfield 19, 3, 0, []) (List.mem_of_getElem? (i := 49) rfl)) (j := 5) rfl rfl rfl hp c4 ?_
            refine zp_load (pc := 91) hx hb (zd_X7_wordIn (91, .aload_n 0, 1, 0, []) (List.mem_of_getElem? (i := 50) rfl)) rfl (j := 4) rfl ?_
            refine zp_getf (n := (f : Int)) (pc := 92) hx hb hE hw (zd_X7_wordIn (92, .getfield 29, 3, 0, []) (List.mem_of_getElem? (i := 51) rfl)) (j := 4) rfl rfl rfl hp c3 ?_
            refine zp_sub (n := ((q : Int) + (-1) * (f : Int))) (pc := 95) hx hb (zd_X7_wordIn (95, .isub, 1, 0, []) (List.mem_of_getElem? (i := 52) rfl)) (by omega) (zp_r0 (by omega) (by omega)) ?_
            refine zp_icmp (pc := 96) (tgt := 101) hx hb (zd_X7_wordIn (96, .if_icmp .ne 5, 3, 0, []) (List.mem_of_getElem? (i := 53) rfl)) rfl (fun (hc166 : ¬ sm = ((q : Int) + (-1) * (f : Int))) => ?_) (fun (hc166 : ¬ (¬ sm = ((q : Int) + (-1) * (f : Int)))) => ?_)
            · refine zp_iinc (L' := [(2, 0, ((ix : Int) + 1)), (5, 0, rnc164), (4, 0, (k : Int)), (3, 0, sm), (0, 2, (a : Int)), (1, 2, (sx : Int))]) (n := ((ix : Int) + 1)) (pc := 101) hx hb hnL (zd_X7_wordIn (101, .iinc 2 1, 3, 0, []) (List.mem_of_getElem? (i := 56) rfl)) (j := 3) rfl (by omega) (zp_r0 (by omega) (by omega)) rfl rfl ?_
              refine zp_const (pc := 104) hx hb (zd_X7_wordIn (104, .iconst 0, 1, 0, []) (List.mem_of_getElem? (i := 57) rfl)) rfl rfl ?_
              refine zp_store (L' := [(3, 0, 0), (2, 0, ((ix : Int) + 1)), (5, 0, rnc164), (4, 0, (k : Int)), (0, 2, (a : Int)), (1, 2, (sx : Int))]) (pc := 105) hx hb hnL (zd_X7_wordIn (105, .istore_n 3, 1, 0, []) (List.mem_of_getElem? (i := 58) rfl)) rfl rfl rfl ?_
              refine zp_iinc (L' := [(4, 0, ((k : Int) + 1)), (3, 0, 0), (2, 0, ((ix : Int) + 1)), (5, 0, rnc164), (0, 2, (a : Int)), (1, 2, (sx : Int))]) (n := ((k : Int) + 1)) (pc := 106) hx hb hnL (zd_X7_wordIn (106, .iinc 4 1, 3, 0, []) (List.mem_of_getElem? (i := 59) rfl)) (j := 3) rfl (by omega) (zp_r0 (by omega) (by omega)) rfl rfl ?_
              refine zp_goto (tgt := 17) (pc := 109) hx hb (zd_X7_wordIn (109, .goto (-92), 3, 0, []) (List.mem_of_getElem? (i := 60) rfl)) rfl ?_
              refine zp_drop (L' := [(4, 0, ((k + 1 : Nat) : Int)), (3, 0, 0), (2, 0, ((ix + 1 : Nat) : Int)), (0, 2, (a : Int)), (1, 2, (sx : Int))]) (by simp <;> omega) ?_
              have ih9 := ih (k + 1) (by omega) (by omega) (go (fun z => by omega))
              rw [e1, e2] at ih9
              rw [if_pos (by omega), if_pos (by omega)] at ih9
              exact ih9
            · refine zp_load (pc := 99) hx hb (zd_X7_wordIn (99, .iload_n 2, 1, 0, []) (List.mem_of_getElem? (i := 54) rfl)) rfl (j := 3) rfl ?_
              refine zp_iret (pc := 100) (n := (ix : Int)) hx hb hE hQ hU5 rfl (by decide) (zd_X7_wordIn (100, .ireturn, 1, 0, []) (List.mem_of_getElem? (i := 55) rfl)) (j := 0) rfl (zp_o0 (by omega) (by omega) (by omega) (by omega)) ?_
              rw [hps]
              refine ⟨rfl, rfl, ?_⟩
              rw [← hso, if_pos hs1, ← hf, ← hq, ← hm, hg, zs_g_step hk, if_pos ⟨by omega, by rw [← hsm0]; omega⟩, ← hix0]
          · refine zp_load (pc := 55) hx hb (zd_X7_wordIn (55, .iload_n 3, 1, 0, []) (List.mem_of_getElem? (i := 29) rfl)) rfl (j := 2) rfl ?_
            refine zp_const (pc := 56) hx hb (zd_X7_wordIn (56, .iconst (-1), 1, 0, []) (List.mem_of_getElem? (i := 30) rfl)) rfl rfl ?_
            refine zp_icmp (pc := 57) (tgt := 81) hx hb (zd_X7_wordIn (57, .if_icmp .eq 24, 3, 0, []) (List.mem_of_getElem? (i := 31) rfl)) rfl (fun (hc167 : sm = (-1)) => ?_) (fun (hc167 : ¬ (sm = (-1))) => ?_)
            · refine zp_const (pc := 81) hx hb (zd_X7_wordIn (81, .iconst (-1), 1, 0, []) (List.mem_of_getElem? (i := 44) rfl)) rfl rfl ?_
              refine zp_store (L' := [(3, 0, (-1)), (5, 0, rnc164), (4, 0, (k : Int)), (2, 0, (ix : Int)), (0, 2, (a : Int)), (1, 2, (sx : Int))]) (pc := 82) hx hb hnL (zd_X7_wordIn (82, .istore_n 3, 1, 0, []) (List.mem_of_getElem? (i := 45) rfl)) rfl rfl rfl ?_
              refine zp_goto (tgt := 106) (pc := 83) hx hb (zd_X7_wordIn (83, .goto 23, 3, 0, []) (List.mem_of_getElem? (i := 46) rfl)) rfl ?_
              refine zp_iinc (L' := [(4, 0, ((k : Int) + 1)), (3, 0, (-1)), (5, 0, rnc164), (2, 0, (ix : Int)), (0, 2, (a : Int)), (1, 2, (sx : Int))]) (n := ((k : Int) + 1)) (pc := 106) hx hb hnL (zd_X7_wordIn (106, .iinc 4 1, 3, 0, []) (List.mem_of_getElem? (i := 59) rfl)) (j := 2) rfl (by omega) (zp_r0 (by omega) (by omega)) rfl rfl ?_
              refine zp_goto (tgt := 17) (pc := 109) hx hb (zd_X7_wordIn (109, .goto (-92), 3, 0, []) (List.mem_of_getElem? (i := 60) rfl)) rfl ?_
              refine zp_drop (L' := [(4, 0, ((k + 1 : Nat) : Int)), (3, 0, (-1)), (2, 0, (ix : Int)), (0, 2, (a : Int)), (1, 2, (sx : Int))]) (by simp <;> omega) ?_
              have ih9 := ih (k + 1) (by omega) (by omega) (go (fun z => by omega))
              rw [e1, e2] at ih9
              rw [if_neg (by omega), if_neg (by omega), if_neg (by omega)] at ih9
              exact ih9
            · refine zp_load (pc := 60) hx hb (zd_X7_wordIn (60, .aload_n 0, 1, 0, []) (List.mem_of_getElem? (i := 32) rfl)) rfl (j := 4) rfl ?_
              refine zp_load (pc := 61) hx hb (zd_X7_wordIn (61, .aload_n 0, 1, 0, []) (List.mem_of_getElem? (i := 33) rfl)) rfl (j := 4) rfl ?_
              refine zp_getf (n := (f : Int)) (pc := 62) hx hb hE hw (zd_X7_wordIn (62, .getfield 29, 3, 0, []) (List.mem_of_getElem? (i := 34) rfl)) (j := 4) rfl rfl rfl hp c3 ?_
              refine zp_load (pc := 65) hx hb (zd_X7_wordIn (65, .iload_n 3, 1, 0, []) (List.mem_of_getElem? (i := 35) rfl)) rfl (j := 2) rfl ?_
              refine zp_add (n := ((f : Int) + sm)) (pc := 66) hx hb (zd_X7_wordIn (66, .iadd, 1, 0, []) (List.mem_of_getElem? (i := 36) rfl)) (by omega) (zp_r0 (by omega) (by omega)) ?_
              refine zp_call (pc := 67) (how := 0) (idx := 25) (mi := 37) (S := []) hx hb hE hw heff hrm (zX_bya hW) rfl (j := 1) rfl rfl (by decide +kernel) (zd_X7_wordIn (67, .invokevirtual 25, 3, 0, []) (List.mem_of_getElem? (i := 37) rfl)) [(a : Int), ((f : Int) + sm)] rfl ⟨zp_o2 hp, zp_o0 (by omega) (by omega) (by omega) (by omega), trivial⟩ (Nat.le_of_ble_eq_true rfl) trivial (fun al hal rnb168 Pb168 Gb168 hextb168 hfrb168 hokb168 hcsb168 hpsib168 => ?_)
              obtain rfl := List.mem_singleton.mp hal
              have hrb168 := zp_int (hokb168 _ rfl).1
              obtain ⟨hPeb168, hGeb168, htb168⟩ := hpsib168
              rw [hPeb168, hGeb168]
              have hvb168 : rnb168 = zBc B ln (f + sm.toNat) := by
                have h9 := htb168 (f + sm.toNat) (show ((f : Int) + sm) = ((f + sm.toNat : Nat) : Int) by omega)
                unfold zBc
                by_cases z : f + sm.toNat < ln
                · rw [if_pos z]
                  refine (h9.1 (show ((f + sm.toNat : Nat) : Int) < zp_n u.2.1 a 1 by rw [t1]; omega)).trans ?_
                  show zp_n u.2.1 (zp_n u.2.1 a 0).toNat (2000 + (f + sm.toNat)) = _
                  rw [t0, Int.toNat_natCast]
                  exact t3 _
                · rw [if_neg z]
                  exact h9.2 (show ¬ ((f + sm.toNat : Nat) : Int) < zp_n u.2.1 a 1 by rw [t1]; omega)
              refine zp_load (pc := 70) hx hb (zd_X7_wordIn (70, .iload 5, 2, 0, []) (List.mem_of_getElem? (i := 38) rfl)) rfl (j := 0) rfl ?_
              refine zp_icmp (pc := 72) (tgt := 81) hx hb (zd_X7_wordIn (72, .if_icmp .ne 9, 3, 0, []) (List.mem_of_getElem? (i := 39) rfl)) rfl (fun (hc169 : ¬ rnb168 = rnc164) => ?_) (fun (hc169 : ¬ (¬ rnb168 = rnc164)) => ?_)
              · refine zp_const (pc := 81) hx hb (zd_X7_wordIn (81, .iconst (-1), 1, 0, []) (List.mem_of_getElem? (i := 44) rfl)) rfl rfl ?_
                refine zp_store (L' := [(3, 0, (-1)), (5, 0, rnc164), (4, 0, (k : Int)), (2, 0, (ix : Int)), (0, 2, (a : Int)), (1, 2, (sx : Int))]) (pc := 82) hx hb hnL (zd_X7_wordIn (82, .istore_n 3, 1, 0, []) (List.mem_of_getElem? (i := 45) rfl)) rfl rfl rfl ?_
                refine zp_goto (tgt := 106) (pc := 83) hx hb (zd_X7_wordIn (83, .goto 23, 3, 0, []) (List.mem_of_getElem? (i := 46) rfl)) rfl ?_
                refine zp_iinc (L' := [(4, 0, ((k : Int) + 1)), (3, 0, (-1)), (5, 0, rnc164), (2, 0, (ix : Int)), (0, 2, (a : Int)), (1, 2, (sx : Int))]) (n := ((k : Int) + 1)) (pc := 106) hx hb hnL (zd_X7_wordIn (106, .iinc 4 1, 3, 0, []) (List.mem_of_getElem? (i := 59) rfl)) (j := 2) rfl (by omega) (zp_r0 (by omega) (by omega)) rfl rfl ?_
                refine zp_goto (tgt := 17) (pc := 109) hx hb (zd_X7_wordIn (109, .goto (-92), 3, 0, []) (List.mem_of_getElem? (i := 60) rfl)) rfl ?_
                refine zp_drop (L' := [(4, 0, ((k + 1 : Nat) : Int)), (3, 0, (-1)), (2, 0, (ix : Int)), (0, 2, (a : Int)), (1, 2, (sx : Int))]) (by simp <;> omega) ?_
                have ih9 := ih (k + 1) (by omega) (by omega) (go (fun z => by omega))
                rw [e1, e2] at ih9
                rw [if_neg (by omega), if_neg (by omega), if_neg (by omega)] at ih9
                exact ih9
              · refine zp_load (pc := 75) hx hb (zd_X7_wordIn (75, .iload_n 3, 1, 0, []) (List.mem_of_getElem? (i := 40) rfl)) rfl (j := 2) rfl ?_
                refine zp_const (pc := 76) hx hb (zd_X7_wordIn (76, .iconst 1, 1, 0, []) (List.mem_of_getElem? (i := 41) rfl)) rfl rfl ?_
                refine zp_add (n := (sm + 1)) (pc := 77) hx hb (zd_X7_wordIn (77, .iadd, 1, 0, []) (List.mem_of_getElem? (i := 42) rfl)) (by omega) (zp_r0 (by omega) (by omega)) ?_
                refine zp_goto (tgt := 82) (pc := 78) hx hb (zd_X7_wordIn (78, .goto 4, 3, 0, []) (List.mem_of_getElem? (i := 43) rfl)) rfl ?_
                refine zp_store (L' := [(3, 0, (sm + 1)), (5, 0, rnc164), (4, 0, (k : Int)), (2, 0, (ix : Int)), (0, 2, (a : Int)), (1, 2, (sx : Int))]) (pc := 82) hx hb hnL (zd_X7_wordIn (82, .istore_n 3, 1, 0, []) (List.mem_of_getElem? (i := 45) rfl)) rfl rfl rfl ?_
                refine zp_goto (tgt := 106) (pc := 83) hx hb (zd_X7_wordIn (83, .goto 23, 3, 0, []) (List.mem_of_getElem? (i := 46) rfl)) rfl ?_
                refine zp_iinc (L' := [(4, 0, ((k : Int) + 1)), (3, 0, (sm + 1)), (5, 0, rnc164), (2, 0, (ix : Int)), (0, 2, (a : Int)), (1, 2, (sx : Int))]) (n := ((k : Int) + 1)) (pc := 106) hx hb hnL (zd_X7_wordIn (106, .iinc 4 1, 3, 0, []) (List.mem_of_getElem? (i := 59) rfl)) (j := 2) rfl (by omega) (zp_r0 (by omega) (by omega)) rfl rfl ?_
                refine zp_goto (tgt := 17) (pc := 109) hx hb (zd_X7_wordIn (109, .goto (-92), 3, 0, []) (List.mem_of_getElem? (i := 60) rfl)) rfl ?_
                refine zp_drop (L' := [(4, 0, ((k + 1 : Nat) : Int)), (3, 0, (sm + 1)), (2, 0, (ix : Int)), (0, 2, (a : Int)), (1, 2, (sx : Int))]) (by simp <;> omega) ?_
                have ih9 := ih (k + 1) (by omega) (by omega) (go (fun z => by omega))
                rw [e1, e2] at ih9
                rw [if_neg (by omega), if_pos ⟨by omega, by omega⟩, if_neg (by omega)] at ih9
                exact ih9
  refine zp_load (pc := 0) hx hb (zd_X7_wordIn (0, .aload_n 0, 1, 0, []) (List.mem_of_getElem? (i := 0) rfl)) rfl (j := 0) rfl ?_
  refine zp_getf (n := (so : Int)) (pc := 1) hx hb hE hw (zd_X7_wordIn (1, .getfield 35, 3, 0, []) (List.mem_of_getElem? (i := 1) rfl)) (j := 3) rfl rfl rfl hp c2 ?_
  refine zp_const (pc := 4) hx hb (zd_X7_wordIn (4, .iconst 1, 1, 0, []) (List.mem_of_getElem? (i := 2) rfl)) rfl rfl ?_
  refine zp_icmp (pc := 5) (tgt := 10) hx hb (zd_X7_wordIn (5, .if_icmp .eq 5, 3, 0, []) (List.mem_of_getElem? (i := 3) rfl)) rfl (fun (hc170 : (so : Int) = 1) => ?_) (fun (hc170 : ¬ ((so : Int) = 1)) => ?_)
  · refine zp_const (pc := 10) hx hb (zd_X7_wordIn (10, .iconst 0, 1, 0, []) (List.mem_of_getElem? (i := 6) rfl)) rfl rfl ?_
    refine zp_store (L' := [(2, 0, 0), (0, 2, (a : Int)), (1, 2, (sx : Int))]) (pc := 11) hx hb hnL (zd_X7_wordIn (11, .istore_n 2, 1, 0, []) (List.mem_of_getElem? (i := 7) rfl)) rfl rfl rfl ?_
    refine zp_const (pc := 12) hx hb (zd_X7_wordIn (12, .iconst 0, 1, 0, []) (List.mem_of_getElem? (i := 8) rfl)) rfl rfl ?_
    refine zp_store (L' := [(3, 0, 0), (2, 0, 0), (0, 2, (a : Int)), (1, 2, (sx : Int))]) (pc := 13) hx hb hnL (zd_X7_wordIn (13, .istore_n 3, 1, 0, []) (List.mem_of_getElem? (i := 9) rfl)) rfl rfl rfl ?_
    refine zp_const (pc := 14) hx hb (zd_X7_wordIn (14, .iconst 0, 1, 0, []) (List.mem_of_getElem? (i := 10) rfl)) rfl rfl ?_
    refine zp_store (L' := [(4, 0, 0), (3, 0, 0), (2, 0, 0), (0, 2, (a : Int)), (1, 2, (sx : Int))]) (pc := 15) hx hb hnL (zd_X7_wordIn (15, .istore 4, 2, 0, []) (List.mem_of_getElem? (i := 11) rfl)) rfl rfl rfl ?_
    have h9 := loop (by omega) 4 0 (by omega) (by omega) rfl
    exact h9
  · refine zp_const (pc := 8) hx hb (zd_X7_wordIn (8, .iconst (-1), 1, 0, []) (List.mem_of_getElem? (i := 4) rfl)) rfl rfl ?_
    refine zp_iret (pc := 9) (n := (-1)) hx hb hE hQ hU5 rfl (by decide) (zd_X7_wordIn (9, .ireturn, 1, 0, []) (List.mem_of_getElem? (i := 5) rfl)) (j := 0) rfl (zp_o0 (by omega) (by omega) (by omega) (by omega)) ?_
    rw [hps]
    refine ⟨rfl, rfl, ?_⟩
    rw [← hso, if_neg (by omega)]
theorem zv_lc {B : Nat → Int} {ln tk t b : Nat} {G : Nat → Nat → Int} {rn : Int} (h : zTt t b G B ln tk) (hr : rn = if zy_so B ln tk = 1 then zs_g za_lc 28 (zBc B ln) (zy_fr B ln tk) ((zy_to B ln tk - zy_fr B ln tk : Nat) : Int) 0 else -1) : rn = if zy_so B ln tk = 1 then ych ywh 0 (zy_wo B ln tk) else -1 := by
  rw [hr]
  by_cases hs : zy_so B ln tk = 1
  · obtain ⟨h1, h2⟩ := zBc_let h hs
    rw [if_pos hs, if_pos hs, zaw_lc h1, h2]
    rfl
  · rw [if_neg hs, if_neg hs]
theorem zv_lw {B : Nat → Int} {ln tk t b : Nat} {G : Nat → Nat → Int} {rn : Int} (h : zTt t b G B ln tk) (hr : rn = if zy_so B ln tk = 1 then zs_g za_lw 48 (zBc B ln) (zy_fr B ln tk) ((zy_to B ln tk - zy_fr B ln tk : Nat) : Int) 0 else -1) : rn = if zy_so B ln tk = 1 then ych ywd 0 (zy_wo B ln tk) else -1 := by
  rw [hr]
  by_cases hs : zy_so B ln tk = 1
  · obtain ⟨h1, h2⟩ := zBc_let h hs
    rw [if_pos hs, if_pos hs, zaw_lw h1, h2]
    rfl
  · rw [if_neg hs, if_neg hs]
theorem zv_ow {B : Nat → Int} {ln tk t b : Nat} {G : Nat → Nat → Int} {rn : Int} (h : zTt t b G B ln tk) (hr : rn = if zy_so B ln tk = 1 then zs_g za_ow 37 (zBc B ln) (zy_fr B ln tk) ((zy_to B ln tk - zy_fr B ln tk : Nat) : Int) 0 else -1) : rn = if zy_so B ln tk = 1 then ych ywo 0 (zy_wo B ln tk) else -1 := by
  rw [hr]
  by_cases hs : zy_so B ln tk = 1
  · obtain ⟨h1, h2⟩ := zBc_let h hs
    rw [if_pos hs, if_pos hs, zaw_ow h1, h2]
    rfl
  · rw [if_neg hs, if_neg hs]
theorem zv_oc {B : Nat → Int} {ln tk t b : Nat} {G : Nat → Nat → Int} {rn : Int} (h : zTt t b G B ln tk) (hr : rn = if zy_so B ln tk = 1 then zs_g za_oc 17 (zBc B ln) (zy_fr B ln tk) ((zy_to B ln tk - zy_fr B ln tk : Nat) : Int) 0 else -1) : rn = if zy_so B ln tk = 1 then ych [763332, 11449, 19118, 431556] 0 (zy_wo B ln tk) else -1 := by
  rw [hr]
  by_cases hs : zy_so B ln tk = 1
  · obtain ⟨h1, h2⟩ := zBc_let h hs
    rw [if_pos hs, if_pos hs, zaw_oc h1, h2]
    rfl
  · rw [if_neg hs, if_neg hs]
theorem zv_by {B : Nat → Int} {ln tk t b : Nat} {G : Nat → Nat → Int} {rn : Int} (h : zTt t b G B ln tk) (hr : rn = if zy_so B ln tk = 1 then zs_g za_by 2 (zBc B ln) (zy_fr B ln tk) ((zy_to B ln tk - zy_fr B ln tk : Nat) : Int) 0 else -1) : rn = 0 ↔ yr_w (zy_so B ln) (zy_wo B ln) 89 tk = true := by
  unfold yr_w
  rw [Bool.and_eq_true, decide_eq_true_eq, decide_eq_true_eq, hr]
  by_cases hs : zy_so B ln tk = 1
  · obtain ⟨h1, h2⟩ := zBc_let h hs
    rw [if_pos hs, zaw_by h1, h2]
    by_cases hz : zy_wo B ln tk = 89
    · rw [if_pos hz]
      exact ⟨fun _ => ⟨hs, hz⟩, fun _ => rfl⟩
    · rw [if_neg hz]
      exact ⟨fun z => absurd z (by decide), fun z => absurd z.2 hz⟩
  · rw [if_neg hs]
    exact ⟨fun z => absurd z (by decide), fun z => absurd z.1 hs⟩
noncomputable def zK_viby : zk_K := (zt_mn 68, prog_9_method_9_code, 2, (Option.some Jvm.ClassFile.FieldType.boolean), 1, 7, [(2, 7, 0, 0), (2, 203, 0, 0)], [(some (0, 0, 0, 1), [])], [], (10, 246, 0, 0))
noncomputable def zφ_viby (b : Nat) (B : Nat → Int) (ln tk : Nat) : (Nat → Option Nat) → (Nat → Nat → Int) → List Int → Prop := fun P G ps => zTt (zp_0 ps) b G B ln tk
noncomputable def zψ_viby (b : Nat) (B : Nat → Int) (ln tk : Nat) : (Nat → Option Nat) → (Nat → Nat → Int) → List Int → (Nat → Option Nat) → (Nat → Nat → Int) → Int → Prop := fun P G ps P' G' rn => P' = P ∧ G' = G ∧ (rn = 1 ↔ yr_w (zy_so B ln) (zy_wo B ln) 89 tk = true)
theorem zX_viby {l : Launch} {w : zk_W} (hW : zh_W w) (b : Nat) (B : Nat → Int) (ln tk : Nat) : zk_metX l w zt_dv zt_TB zK_viby (zp_A (zφ_viby b B ln tk)) (zp_B (zψ_viby b B ln tk)) ∧ zk_cok w zt_TB zK_viby := by
  refine zp_methX (cn := "WoundTown$Tape") zp_lkallT9 hW (pl := 831) rfl (by decide +kernel) (fun p e R s m args below meth c Q u hx hb hE hQ hU5 heff hnL hok hφ => ?_)
  have hw := hW.1
  obtain ⟨p0, p1, hps, k0, k1⟩ := zp_ps2 hok
  obtain ⟨a, rfl, hp⟩ := zp_this k0
  have hrm : zk_Kr (zk_ev (zt_types, zp_lkT9, zt_dv, [], [], zp_lcT9, zK_viby)) = zk_Kr zK_viby := rfl
  rw [hps] at hφ ⊢
  show zp_J p l e R s m args below meth c Q w u [] 0 [(0, 2, (a : Int)), (1, 2, p1)] [] u.1 (zp_n u.2.1)
  obtain ⟨sx, rfl, qs⟩ := zp_this k1
  have hT : zTt a b (zp_n u.2.1) B ln tk := hφ
  refine zp_load (pc := 0) hx hb (zd_X7_isWord (0, .aload_n 0, 1, 0, []) (List.mem_of_getElem? (i := 0) rfl)) rfl (j := 0) rfl ?_
  refine zp_load (pc := 1) hx hb (zd_X7_isWord (1, .aload_n 1, 1, 0, []) (List.mem_of_getElem? (i := 1) rfl)) rfl (j := 1) rfl ?_
  refine zp_call (pc := 2) (how := 0) (idx := 41) (mi := 46) (S := []) hx hb hE hw heff hrm (zX_vwby hW b B ln tk) rfl (j := 6) rfl rfl (by decide +kernel) (zd_X7_isWord (2, .invokevirtual 41, 3, 0, []) (List.mem_of_getElem? (i := 2) rfl)) [(a : Int), (sx : Int)] rfl ⟨zp_o2 hp, zp_o2 qs, trivial⟩ (Nat.le_of_ble_eq_true rfl) hT (fun al hal rnw Pw Gw hextw hfrw hokw hcsw hpsiw => ?_)
  obtain rfl := List.mem_singleton.mp hal
  have hrw := zp_int (hokw _ rfl).1
  obtain ⟨hPew, hGew, htw⟩ := hpsiw
  rw [hPew, hGew]
  have hx9 := zv_by hT htw
  refine zp_if (pc := 5) (tgt := 12) hx hb (zd_X7_isWord (5, .ifCond .ne 7, 3, 0, []) (List.mem_of_getElem? (i := 3) rfl)) rfl (fun (hc171 : ¬ rnw = 0) => ?_) (fun (hc171 : ¬ (¬ rnw = 0)) => ?_)
  · refine zp_const (pc := 12) hx hb (zd_X7_isWord (12, .iconst 0, 1, 0, []) (List.mem_of_getElem? (i := 6) rfl)) rfl rfl ?_
    refine zp_zret (pc := 13) (n := 0) hx hb hE hQ hU5 rfl (by decide) (zd_X7_isWord (13, .ireturn, 1, 0, []) (List.mem_of_getElem? (i := 7) rfl)) (j := 0) rfl (zp_o0 (by omega) (by omega) (by omega) (by omega)) ?_
    rw [hps]
    refine ⟨rfl, rfl, ?_⟩
    show (0 = 1 ↔ _)
    rw [← hx9]
    omega
  · refine zp_const (pc := 8) hx hb (zd_X7_isWord (8, .iconst 1, 1, 0, []) (List.mem_of_getElem? (i := 4) rfl)) rfl rfl ?_
    refine zp_goto (tgt := 13) (pc := 9) hx hb (zd_X7_isWord (9, .goto 4, 3, 0, []) (List.mem_of_getElem? (i := 5) rfl)) rfl ?_
    refine zp_zret (pc := 13) (n := 1) hx hb hE hQ hU5 rfl (by decide) (zd_X7_isWord (13, .ireturn, 1, 0, []) (List.mem_of_getElem? (i := 7) rfl)) (j := 0) rfl (zp_o0 (by omega) (by omega) (by omega) (by omega)) ?_
    rw [hps]
    refine ⟨rfl, rfl, ?_⟩
    show (1 = 1 ↔ _)
    rw [← hx9]
    omega
theorem zv_ti {B : Nat → Int} {ln tk t b : Nat} {G : Nat → Nat → Int} {rn : Int} (h : zTt t b G B ln tk) (hr : rn = if zy_so B ln tk = 1 then zs_g za_ti 5 (zBc B ln) (zy_fr B ln tk) ((zy_to B ln tk - zy_fr B ln tk : Nat) : Int) 0 else -1) : rn = 0 ↔ yr_w (zy_so B ln) (zy_wo B ln) 21279923 tk = true := by
  unfold yr_w
  rw [Bool.and_eq_true, decide_eq_true_eq, decide_eq_true_eq, hr]
  by_cases hs : zy_so B ln tk = 1
  · obtain ⟨h1, h2⟩ := zBc_let h hs
    rw [if_pos hs, zaw_ti h1, h2]
    by_cases hz : zy_wo B ln tk = 21279923
    · rw [if_pos hz]
      exact ⟨fun _ => ⟨hs, hz⟩, fun _ => rfl⟩
    · rw [if_neg hz]
      exact ⟨fun z => absurd z (by decide), fun z => absurd z.2 hz⟩
  · rw [if_neg hs]
    exact ⟨fun z => absurd z (by decide), fun z => absurd z.1 hs⟩
noncomputable def zK_viti : zk_K := (zt_mn 68, prog_9_method_9_code, 2, (Option.some Jvm.ClassFile.FieldType.boolean), 1, 7, [(2, 7, 0, 0), (2, 204, 0, 0)], [(some (0, 0, 0, 1), [])], [], (10, 246, 0, 0))
noncomputable def zφ_viti (b : Nat) (B : Nat → Int) (ln tk : Nat) : (Nat → Option Nat) → (Nat → Nat → Int) → List Int → Prop := fun P G ps => zTt (zp_0 ps) b G B ln tk
noncomputable def zψ_viti (b : Nat) (B : Nat → Int) (ln tk : Nat) : (Nat → Option Nat) → (Nat → Nat → Int) → List Int → (Nat → Option Nat) → (Nat → Nat → Int) → Int → Prop := fun P G ps P' G' rn => P' = P ∧ G' = G ∧ (rn = 1 ↔ yr_w (zy_so B ln) (zy_wo B ln) 21279923 tk = true)
theorem zX_viti {l : Launch} {w : zk_W} (hW : zh_W w) (b : Nat) (B : Nat → Int) (ln tk : Nat) : zk_metX l w zt_dv zt_TB zK_viti (zp_A (zφ_viti b B ln tk)) (zp_B (zψ_viti b B ln tk)) ∧ zk_cok w zt_TB zK_viti := by
  refine zp_methX (cn := "WoundTown$Tape") zp_lkallT9 hW (pl := 831) rfl (by decide +kernel) (fun p e R s m args below meth c Q u hx hb hE hQ hU5 heff hnL hok hφ => ?_)
  have hw := hW.1
  obtain ⟨p0, p1, hps, k0, k1⟩ := zp_ps2 hok
  obtain ⟨a, rfl, hp⟩ := zp_this k0
  have hrm : zk_Kr (zk_ev (zt_types, zp_lkT9, zt_dv, [], [], zp_lcT9, zK_viti)) = zk_Kr zK_viti := rfl
  rw [hps] at hφ ⊢
  show zp_J p l e R s m args below meth c Q w u [] 0 [(0, 2, (a : Int)), (1, 2, p1)] [] u.1 (zp_n u.2.1)
  obtain ⟨sx, rfl, qs⟩ := zp_this k1
  have hT : zTt a b (zp_n u.2.1) B ln tk := hφ
  refine zp_load (pc := 0) hx hb (zd_X7_isWord (0, .aload_n 0, 1, 0, []) (List.mem_of_getElem? (i := 0) rfl)) rfl (j := 0) rfl ?_
  refine zp_load (pc := 1) hx hb (zd_X7_isWord (1, .aload_n 1, 1, 0, []) (List.mem_of_getElem? (i := 1) rfl)) rfl (j := 1) rfl ?_
  refine zp_call (pc := 2) (how := 0) (idx := 41) (mi := 46) (S := []) hx hb hE hw heff hrm (zX_vwti hW b B ln tk) rfl (j := 6) rfl rfl (by decide +kernel) (zd_X7_isWord (2, .invokevirtual 41, 3, 0, []) (List.mem_of_getElem? (i := 2) rfl)) [(a : Int), (sx : Int)] rfl ⟨zp_o2 hp, zp_o2 qs, trivial⟩ (Nat.le_of_ble_eq_true rfl) hT (fun al hal rnw Pw Gw hextw hfrw hokw hcsw hpsiw => ?_)
  obtain rfl := List.mem_singleton.mp hal
  have hrw := zp_int (hokw _ rfl).1
  obtain ⟨hPew, hGew, htw⟩ := hpsiw
  rw [hPew, hGew]
  have hx9 := zv_ti hT htw
  refine zp_if (pc := 5) (tgt := 12) hx hb (zd_X7_isWord (5, .ifCond .ne 7, 3, 0, []) (List.mem_of_getElem? (i := 3) rfl)) rfl (fun (hc172 : ¬ rnw = 0) => ?_) (fun (hc172 : ¬ (¬ rnw = 0)) => ?_)
  · refine zp_const (pc := 12) hx hb (zd_X7_isWord (12, .iconst 0, 1, 0, []) (List.mem_of_getElem? (i := 6) rfl)) rfl rfl ?_
    refine zp_zret (pc := 13) (n := 0) hx hb hE hQ hU5 rfl (by decide) (zd_X7_isWord (13, .ireturn, 1, 0, []) (List.mem_of_getElem? (i := 7) rfl)) (j := 0) rfl (zp_o0 (by omega) (by omega) (by omega) (by omega)) ?_
    rw [hps]
    refine ⟨rfl, rfl, ?_⟩
    show (0 = 1 ↔ _)
    rw [← hx9]
    omega
  · refine zp_const (pc := 8) hx hb (zd_X7_isWord (8, .iconst 1, 1, 0, []) (List.mem_of_getElem? (i := 4) rfl)) rfl rfl ?_
    refine zp_goto (tgt := 13) (pc := 9) hx hb (zd_X7_isWord (9, .goto 4, 3, 0, []) (List.mem_of_getElem? (i := 5) rfl)) rfl ?_
    refine zp_zret (pc := 13) (n := 1) hx hb hE hQ hU5 rfl (by decide) (zd_X7_isWord (13, .ireturn, 1, 0, []) (List.mem_of_getElem? (i := 7) rfl)) (j := 0) rfl (zp_o0 (by omega) (by omega) (by omega) (by omega)) ?_
    rw [hps]
    refine ⟨rfl, rfl, ?_⟩
    show (1 = 1 ↔ _)
    rw [← hx9]
    omega
theorem zv_if {B : Nat → Int} {ln tk t b : Nat} {G : Nat → Nat → Int} {rn : Int} (h : zTt t b G B ln tk) (hr : rn = if zy_so B ln tk = 1 then zs_g za_if 2 (zBc B ln) (zy_fr B ln tk) ((zy_to B ln tk - zy_fr B ln tk : Nat) : Int) 0 else -1) : rn = 0 ↔ yr_w (zy_so B ln) (zy_wo B ln) 294 tk = true := by
  unfold yr_w
  rw [Bool.and_eq_true, decide_eq_true_eq, decide_eq_true_eq, hr]
  by_cases hs : zy_so B ln tk = 1
  · obtain ⟨h1, h2⟩ := zBc_let h hs
    rw [if_pos hs, zaw_if h1, h2]
    by_cases hz : zy_wo B ln tk = 294
    · rw [if_pos hz]
      exact ⟨fun _ => ⟨hs, hz⟩, fun _ => rfl⟩
    · rw [if_neg hz]
      exact ⟨fun z => absurd z (by decide), fun z => absurd z.2 hz⟩
  · rw [if_neg hs]
    exact ⟨fun z => absurd z (by decide), fun z => absurd z.1 hs⟩
noncomputable def zK_viif : zk_K := (zt_mn 68, prog_9_method_9_code, 2, (Option.some Jvm.ClassFile.FieldType.boolean), 1, 7, [(2, 7, 0, 0), (2, 205, 0, 0)], [(some (0, 0, 0, 1), [])], [], (10, 246, 0, 0))
noncomputable def zφ_viif (b : Nat) (B : Nat → Int) (ln tk : Nat) : (Nat → Option Nat) → (Nat → Nat → Int) → List Int → Prop := fun P G ps => zTt (zp_0 ps) b G B ln tk
noncomputable def zψ_viif (b : Nat) (B : Nat → Int) (ln tk : Nat) : (Nat → Option Nat) → (Nat → Nat → Int) → List Int → (Nat → Option Nat) → (Nat → Nat → Int) → Int → Prop := fun P G ps P' G' rn => P' = P ∧ G' = G ∧ (rn = 1 ↔ yr_w (zy_so B ln) (zy_wo B ln) 294 tk = true)
theorem zX_viif {l : Launch} {w : zk_W} (hW : zh_W w) (b : Nat) (B : Nat → Int) (ln tk : Nat) : zk_metX l w zt_dv zt_TB zK_viif (zp_A (zφ_viif b B ln tk)) (zp_B (zψ_viif b B ln tk)) ∧ zk_cok w zt_TB zK_viif := by
  refine zp_methX (cn := "WoundTown$Tape") zp_lkallT9 hW (pl := 831) rfl (by decide +kernel) (fun p e R s m args below meth c Q u hx hb hE hQ hU5 heff hnL hok hφ => ?_)
  have hw := hW.1
  obtain ⟨p0, p1, hps, k0, k1⟩ := zp_ps2 hok
  obtain ⟨a, rfl, hp⟩ := zp_this k0
  have hrm : zk_Kr (zk_ev (zt_types, zp_lkT9, zt_dv, [], [], zp_lcT9, zK_viif)) = zk_Kr zK_viif := rfl
  rw [hps] at hφ ⊢
  show zp_J p l e R s m args below meth c Q w u [] 0 [(0, 2, (a : Int)), (1, 2, p1)] [] u.1 (zp_n u.2.1)
  obtain ⟨sx, rfl, qs⟩ := zp_this k1
  have hT : zTt a b (zp_n u.2.1) B ln tk := hφ
  refine zp_load (pc := 0) hx hb (zd_X7_isWord (0, .aload_n 0, 1, 0, []) (List.mem_of_getElem? (i := 0) rfl)) rfl (j := 0) rfl ?_
  refine zp_load (pc := 1) hx hb (zd_X7_isWord (1, .aload_n 1, 1, 0, []) (List.mem_of_getElem? (i := 1) rfl)) rfl (j := 1) rfl ?_
  refine zp_call (pc := 2) (how := 0) (idx := 41) (mi := 46) (S := []) hx hb hE hw heff hrm (zX_vwif hW b B ln tk) rfl (j := 6) rfl rfl (by decide +kernel) (zd_X7_isWord (2, .invokevirtual 41, 3, 0, []) (List.mem_of_getElem? (i := 2) rfl)) [(a : Int), (sx : Int)] rfl ⟨zp_o2 hp, zp_o2 qs, trivial⟩ (Nat.le_of_ble_eq_true rfl) hT (fun al hal rnw Pw Gw hextw hfrw hokw hcsw hpsiw => ?_)
  obtain rfl := List.mem_singleton.mp hal
  have hrw := zp_int (hokw _ rfl).1
  obtain ⟨hPew, hGew, htw⟩ := hpsiw
  rw [hPew, hGew]
  have hx9 := zv_if hT htw
  refine zp_if (pc := 5) (tgt := 12) hx hb (zd_X7_isWord (5, .ifCond .ne 7, 3, 0, []) (List.mem_of_getElem? (i := 3) rfl)) rfl (fun (hc173 : ¬ rnw = 0) => ?_) (fun (hc173 : ¬ (¬ rnw = 0)) => ?_)
  · refine zp_const (pc := 12) hx hb (zd_X7_isWord (12, .iconst 0, 1, 0, []) (List.mem_of_getElem? (i := 6) rfl)) rfl rfl ?_
    refine zp_zret (pc := 13) (n := 0) hx hb hE hQ hU5 rfl (by decide) (zd_X7_isWord (13, .ireturn, 1, 0, []) (List.mem_of_getElem? (i := 7) rfl)) (j := 0) rfl (zp_o0 (by omega) (by omega) (by omega) (by omega)) ?_
    rw [hps]
    refine ⟨rfl, rfl, ?_⟩
    show (0 = 1 ↔ _)
    rw [← hx9]
    omega
  · refine zp_const (pc := 8) hx hb (zd_X7_isWord (8, .iconst 1, 1, 0, []) (List.mem_of_getElem? (i := 4) rfl)) rfl rfl ?_
    refine zp_goto (tgt := 13) (pc := 9) hx hb (zd_X7_isWord (9, .goto 4, 3, 0, []) (List.mem_of_getElem? (i := 5) rfl)) rfl ?_
    refine zp_zret (pc := 13) (n := 1) hx hb hE hQ hU5 rfl (by decide) (zd_X7_isWord (13, .ireturn, 1, 0, []) (List.mem_of_getElem? (i := 7) rfl)) (j := 0) rfl (zp_o0 (by omega) (by omega) (by omega) (by omega)) ?_
    rw [hps]
    refine ⟨rfl, rfl, ?_⟩
    show (1 = 1 ↔ _)
    rw [← hx9]
    omega
theorem zv_or {B : Nat → Int} {ln tk t b : Nat} {G : Nat → Nat → Int} {rn : Int} (h : zTt t b G B ln tk) (hr : rn = if zy_so B ln tk = 1 then zs_g za_or 2 (zBc B ln) (zy_fr B ln tk) ((zy_to B ln tk - zy_fr B ln tk : Nat) : Int) 0 else -1) : rn = 0 ↔ yr_w (zy_so B ln) (zy_wo B ln) 498 tk = true := by
  unfold yr_w
  rw [Bool.and_eq_true, decide_eq_true_eq, decide_eq_true_eq, hr]
  by_cases hs : zy_so B ln tk = 1
  · obtain ⟨h1, h2⟩ := zBc_let h hs
    rw [if_pos hs, zaw_or h1, h2]
    by_cases hz : zy_wo B ln tk = 498
    · rw [if_pos hz]
      exact ⟨fun _ => ⟨hs, hz⟩, fun _ => rfl⟩
    · rw [if_neg hz]
      exact ⟨fun z => absurd z (by decide), fun z => absurd z.2 hz⟩
  · rw [if_neg hs]
    exact ⟨fun z => absurd z (by decide), fun z => absurd z.1 hs⟩
noncomputable def zK_vior : zk_K := (zt_mn 68, prog_9_method_9_code, 2, (Option.some Jvm.ClassFile.FieldType.boolean), 1, 7, [(2, 7, 0, 0), (2, 208, 0, 0)], [(some (0, 0, 0, 1), [])], [], (10, 246, 0, 0))
noncomputable def zφ_vior (b : Nat) (B : Nat → Int) (ln tk : Nat) : (Nat → Option Nat) → (Nat → Nat → Int) → List Int → Prop := fun P G ps => zTt (zp_0 ps) b G B ln tk
noncomputable def zψ_vior (b : Nat) (B : Nat → Int) (ln tk : Nat) : (Nat → Option Nat) → (Nat → Nat → Int) → List Int → (Nat → Option Nat) → (Nat → Nat → Int) → Int → Prop := fun P G ps P' G' rn => P' = P ∧ G' = G ∧ (rn = 1 ↔ yr_w (zy_so B ln) (zy_wo B ln) 498 tk = true)
theorem zX_vior {l : Launch} {w : zk_W} (hW : zh_W w) (b : Nat) (B : Nat → Int) (ln tk : Nat) : zk_metX l w zt_dv zt_TB zK_vior (zp_A (zφ_vior b B ln tk)) (zp_B (zψ_vior b B ln tk)) ∧ zk_cok w zt_TB zK_vior := by
  refine zp_methX (cn := "WoundTown$Tape") zp_lkallT9 hW (pl := 831) rfl (by decide +kernel) (fun p e R s m args below meth c Q u hx hb hE hQ hU5 heff hnL hok hφ => ?_)
  have hw := hW.1
  obtain ⟨p0, p1, hps, k0, k1⟩ := zp_ps2 hok
  obtain ⟨a, rfl, hp⟩ := zp_this k0
  have hrm : zk_Kr (zk_ev (zt_types, zp_lkT9, zt_dv, [], [], zp_lcT9, zK_vior)) = zk_Kr zK_vior := rfl
  rw [hps] at hφ ⊢
  show zp_J p l e R s m args below meth c Q w u [] 0 [(0, 2, (a : Int)), (1, 2, p1)] [] u.1 (zp_n u.2.1)
  obtain ⟨sx, rfl, qs⟩ := zp_this k1
  have hT : zTt a b (zp_n u.2.1) B ln tk := hφ
  refine zp_load (pc := 0) hx hb (zd_X7_isWord (0, .aload_n 0, 1, 0, []) (List.mem_of_getElem? (i := 0) rfl)) rfl (j := 0) rfl ?_
  refine zp_load (pc := 1) hx hb (zd_X7_isWord (1, .aload_n 1, 1, 0, []) (List.mem_of_getElem? (i := 1) rfl)) rfl (j := 1) rfl ?_
  refine zp_call (pc := 2) (how := 0) (idx := 41) (mi := 46) (S := []) hx hb hE hw heff hrm (zX_vwor hW b B ln tk) rfl (j := 6) rfl rfl (by decide +kernel) (zd_X7_isWord (2, .invokevirtual 41, 3, 0, []) (List.mem_of_getElem? (i := 2) rfl)) [(a : Int), (sx : Int)] rfl ⟨zp_o2 hp, zp_o2 qs, trivial⟩ (Nat.le_of_ble_eq_true rfl) hT (fun al hal rnw Pw Gw hextw hfrw hokw hcsw hpsiw => ?_)
  obtain rfl := List.mem_singleton.mp hal
  have hrw := zp_int (hokw _ rfl).1
  obtain ⟨hPew, hGew, htw⟩ := hpsiw
  rw [hPew, hGew]
  have hx9 := zv_or hT htw
  refine zp_if (pc := 5) (tgt := 12) hx hb (zd_X7_isWord (5, .ifCond .ne 7, 3, 0, []) (List.mem_of_getElem? (i := 3) rfl)) rfl (fun (hc174 : ¬ rnw = 0) => ?_) (fun (hc174 : ¬ (¬ rnw = 0)) => ?_)
  · refine zp_const (pc := 12) hx hb (zd_X7_isWord (12, .iconst 0, 1, 0, []) (List.mem_of_getElem? (i := 6) rfl)) rfl rfl ?_
    refine zp_zret (pc := 13) (n := 0) hx hb hE hQ hU5 rfl (by decide) (zd_X7_isWord (13, .ireturn, 1, 0, []) (List.mem_of_getElem? (i := 7) rfl)) (j := 0) rfl (zp_o0 (by omega) (by omega) (by omega) (by omega)) ?_
    rw [hps]
    refine ⟨rfl, rfl, ?_⟩
    show (0 = 1 ↔ _)
    rw [← hx9]
    omega
  · refine zp_const (pc := 8) hx hb (zd_X7_isWord (8, .iconst 1, 1, 0, []) (List.mem_of_getElem? (i := 4) rfl)) rfl rfl ?_
    refine zp_goto (tgt := 13) (pc := 9) hx hb (zd_X7_isWord (9, .goto 4, 3, 0, []) (List.mem_of_getElem? (i := 5) rfl)) rfl ?_
    refine zp_zret (pc := 13) (n := 1) hx hb hE hQ hU5 rfl (by decide) (zd_X7_isWord (13, .ireturn, 1, 0, []) (List.mem_of_getElem? (i := 7) rfl)) (j := 0) rfl (zp_o0 (by omega) (by omega) (by omega) (by omega)) ?_
    rw [hps]
    refine ⟨rfl, rfl, ?_⟩
    show (1 = 1 ↔ _)
    rw [← hx9]
    omega
theorem zv_an {B : Nat → Int} {ln tk t b : Nat} {G : Nat → Nat → Int} {rn : Int} (h : zTt t b G B ln tk) (hr : rn = if zy_so B ln tk = 1 then zs_g za_an 3 (zBc B ln) (zy_fr B ln tk) ((zy_to B ln tk - zy_fr B ln tk : Nat) : Int) 0 else -1) : rn = 0 ↔ yr_w (zy_so B ln) (zy_wo B ln) 1476 tk = true := by
  unfold yr_w
  rw [Bool.and_eq_true, decide_eq_true_eq, decide_eq_true_eq, hr]
  by_cases hs : zy_so B ln tk = 1
  · obtain ⟨h1, h2⟩ := zBc_let h hs
    rw [if_pos hs, zaw_an h1, h2]
    by_cases hz : zy_wo B ln tk = 1476
    · rw [if_pos hz]
      exact ⟨fun _ => ⟨hs, hz⟩, fun _ => rfl⟩
    · rw [if_neg hz]
      exact ⟨fun z => absurd z (by decide), fun z => absurd z.2 hz⟩
  · rw [if_neg hs]
    exact ⟨fun z => absurd z (by decide), fun z => absurd z.1 hs⟩
noncomputable def zK_vian : zk_K := (zt_mn 68, prog_9_method_9_code, 2, (Option.some Jvm.ClassFile.FieldType.boolean), 1, 7, [(2, 7, 0, 0), (2, 207, 0, 0)], [(some (0, 0, 0, 1), [])], [], (10, 246, 0, 0))
noncomputable def zφ_vian (b : Nat) (B : Nat → Int) (ln tk : Nat) : (Nat → Option Nat) → (Nat → Nat → Int) → List Int → Prop := fun P G ps => zTt (zp_0 ps) b G B ln tk
noncomputable def zψ_vian (b : Nat) (B : Nat → Int) (ln tk : Nat) : (Nat → Option Nat) → (Nat → Nat → Int) → List Int → (Nat → Option Nat) → (Nat → Nat → Int) → Int → Prop := fun P G ps P' G' rn => P' = P ∧ G' = G ∧ (rn = 1 ↔ yr_w (zy_so B ln) (zy_wo B ln) 1476 tk = true)
theorem zX_vian {l : Launch} {w : zk_W} (hW : zh_W w) (b : Nat) (B : Nat → Int) (ln tk : Nat) : zk_metX l w zt_dv zt_TB zK_vian (zp_A (zφ_vian b B ln tk)) (zp_B (zψ_vian b B ln tk)) ∧ zk_cok w zt_TB zK_vian := by
  refine zp_methX (cn := "WoundTown$Tape") zp_lkallT9 hW (pl := 831) rfl (by decide +kernel) (fun p e R s m args below meth c Q u hx hb hE hQ hU5 heff hnL hok hφ => ?_)
  have hw := hW.1
  obtain ⟨p0, p1, hps, k0, k1⟩ := zp_ps2 hok
  obtain ⟨a, rfl, hp⟩ := zp_this k0
  have hrm : zk_Kr (zk_ev (zt_types, zp_lkT9, zt_dv, [], [], zp_lcT9, zK_vian)) = zk_Kr zK_vian := rfl
  rw [hps] at hφ ⊢
  show zp_J p l e R s m args below meth c Q w u [] 0 [(0, 2, (a : Int)), (1, 2, p1)] [] u.1 (zp_n u.2.1)
  obtain ⟨sx, rfl, qs⟩ := zp_this k1
  have hT : zTt a b (zp_n u.2.1) B ln tk := hφ
  refine zp_load (pc := 0) hx hb (zd_X7_isWord (0, .aload_n 0, 1, 0, []) (List.mem_of_getElem? (i := 0) rfl)) rfl (j := 0) rfl ?_
  refine zp_load (pc := 1) hx hb (zd_X7_isWord (1, .aload_n 1, 1, 0, []) (List.mem_of_getElem? (i := 1) rfl)) rfl (j := 1) rfl ?_
  refine zp_call (pc := 2) (how := 0) (idx := 41) (mi := 46) (S := []) hx hb hE hw heff hrm (zX_vwan hW b B ln tk) rfl (j := 6) rfl rfl (by decide +kernel) (zd_X7_isWord (2, .invokevirtual 41, 3, 0, []) (List.mem_of_getElem? (i := 2) rfl)) [(a : Int), (sx : Int)] rfl ⟨zp_o2 hp, zp_o2 qs, trivial⟩ (Nat.le_of_ble_eq_true rfl) hT (fun al hal rnw Pw Gw hextw hfrw hokw hcsw hpsiw => ?_)
  obtain rfl := List.mem_singleton.mp hal
  have hrw := zp_int (hokw _ rfl).1
  obtain ⟨hPew, hGew, htw⟩ := hpsiw
  rw [hPew, hGew]
  have hx9 := zv_an hT htw
  refine zp_if (pc := 5) (tgt := 12) hx hb (zd_X7_isWord (5, .ifCond .ne 7, 3, 0, []) (List.mem_of_getElem? (i := 3) rfl)) rfl (fun (hc175 : ¬ rnw = 0) => ?_) (fun (hc175 : ¬ (¬ rnw = 0)) => ?_)
  · refine zp_const (pc := 12) hx hb (zd_X7_isWord (12, .iconst 0, 1, 0, []) (List.mem_of_getElem? (i := 6) rfl)) rfl rfl ?_
    refine zp_zret (pc := 13) (n := 0) hx hb hE hQ hU5 rfl (by decide) (zd_X7_isWord (13, .ireturn, 1, 0, []) (List.mem_of_getElem? (i := 7) rfl)) (j := 0) rfl (zp_o0 (by omega) (by omega) (by omega) (by omega)) ?_
    rw [hps]
    refine ⟨rfl, rfl, ?_⟩
    show (0 = 1 ↔ _)
    rw [← hx9]
    omega
  · refine zp_const (pc := 8) hx hb (zd_X7_isWord (8, .iconst 1, 1, 0, []) (List.mem_of_getElem? (i := 4) rfl)) rfl rfl ?_
    refine zp_goto (tgt := 13) (pc := 9) hx hb (zd_X7_isWord (9, .goto 4, 3, 0, []) (List.mem_of_getElem? (i := 5) rfl)) rfl ?_
    refine zp_zret (pc := 13) (n := 1) hx hb hE hQ hU5 rfl (by decide) (zd_X7_isWord (13, .ireturn, 1, 0, []) (List.mem_of_getElem? (i := 7) rfl)) (j := 0) rfl (zp_o0 (by omega) (by omega) (by omega) (by omega)) ?_
    rw [hps]
    refine ⟨rfl, rfl, ?_⟩
    show (1 = 1 ↔ _)
    rw [← hx9]
    omega
theorem zv_no {B : Nat → Int} {ln tk t b : Nat} {G : Nat → Nat → Int} {rn : Int} (h : zTt t b G B ln tk) (hr : rn = if zy_so B ln tk = 1 then zs_g za_no 3 (zBc B ln) (zy_fr B ln tk) ((zy_to B ln tk - zy_fr B ln tk : Nat) : Int) 0 else -1) : rn = 0 ↔ yr_w (zy_so B ln) (zy_wo B ln) 14836 tk = true := by
  unfold yr_w
  rw [Bool.and_eq_true, decide_eq_true_eq, decide_eq_true_eq, hr]
  by_cases hs : zy_so B ln tk = 1
  · obtain ⟨h1, h2⟩ := zBc_let h hs
    rw [if_pos hs, zaw_no h1, h2]
    by_cases hz : zy_wo B ln tk = 14836
    · rw [if_pos hz]
      exact ⟨fun _ => ⟨hs, hz⟩, fun _ => rfl⟩
    · rw [if_neg hz]
      exact ⟨fun z => absurd z (by decide), fun z => absurd z.2 hz⟩
  · rw [if_neg hs]
    exact ⟨fun z => absurd z (by decide), fun z => absurd z.1 hs⟩
noncomputable def zK_vino : zk_K := (zt_mn 68, prog_9_method_9_code, 2, (Option.some Jvm.ClassFile.FieldType.boolean), 1, 7, [(2, 7, 0, 0), (2, 206, 0, 0)], [(some (0, 0, 0, 1), [])], [], (10, 246, 0, 0))
noncomputable def zφ_vino (b : Nat) (B : Nat → Int) (ln tk : Nat) : (Nat → Option Nat) → (Nat → Nat → Int) → List Int → Prop := fun P G ps => zTt (zp_0 ps) b G B ln tk
noncomputable def zψ_vino (b : Nat) (B : Nat → Int) (ln tk : Nat) : (Nat → Option Nat) → (Nat → Nat → Int) → List Int → (Nat → Option Nat) → (Nat → Nat → Int) → Int → Prop := fun P G ps P' G' rn => P' = P ∧ G' = G ∧ (rn = 1 ↔ yr_w (zy_so B ln) (zy_wo B ln) 14836 tk = true)
theorem zX_vino {l : Launch} {w : zk_W} (hW : zh_W w) (b : Nat) (B : Nat → Int) (ln tk : Nat) : zk_metX l w zt_dv zt_TB zK_vino (zp_A (zφ_vino b B ln tk)) (zp_B (zψ_vino b B ln tk)) ∧ zk_cok w zt_TB zK_vino := by
  refine zp_methX (cn := "WoundTown$Tape") zp_lkallT9 hW (pl := 831) rfl (by decide +kernel) (fun p e R s m args below meth c Q u hx hb hE hQ hU5 heff hnL hok hφ => ?_)
  have hw := hW.1
  obtain ⟨p0, p1, hps, k0, k1⟩ := zp_ps2 hok
  obtain ⟨a, rfl, hp⟩ := zp_this k0
  have hrm : zk_Kr (zk_ev (zt_types, zp_lkT9, zt_dv, [], [], zp_lcT9, zK_vino)) = zk_Kr zK_vino := rfl
  rw [hps] at hφ ⊢
  show zp_J p l e R s m args below meth c Q w u [] 0 [(0, 2, (a : Int)), (1, 2, p1)] [] u.1 (zp_n u.2.1)
  obtain ⟨sx, rfl, qs⟩ := zp_this k1
  have hT : zTt a b (zp_n u.2.1) B ln tk := hφ
  refine zp_load (pc := 0) hx hb (zd_X7_isWord (0, .aload_n 0, 1, 0, []) (List.mem_of_getElem? (i := 0) rfl)) rfl (j := 0) rfl ?_
  refine zp_load (pc := 1) hx hb (zd_X7_isWord (1, .aload_n 1, 1, 0, []) (List.mem_of_getElem? (i := 1) rfl)) rfl (j := 1) rfl ?_
  refine zp_call (pc := 2) (how := 0) (idx := 41) (mi := 46) (S := []) hx hb hE hw heff hrm (zX_vwno hW b B ln tk) rfl (j := 6) rfl rfl (by decide +kernel) (zd_X7_isWord (2, .invokevirtual 41, 3, 0, []) (List.mem_of_getElem? (i := 2) rfl)) [(a : Int), (sx : Int)] rfl ⟨zp_o2 hp, zp_o2 qs, trivial⟩ (Nat.le_of_ble_eq_true rfl) hT (fun al hal rnw Pw Gw hextw hfrw hokw hcsw hpsiw => ?_)
  obtain rfl := List.mem_singleton.mp hal
  have hrw := zp_int (hokw _ rfl).1
  obtain ⟨hPew, hGew, htw⟩ := hpsiw
  rw [hPew, hGew]
  have hx9 := zv_no hT htw
  refine zp_if (pc := 5) (tgt := 12) hx hb (zd_X7_isWord (5, .ifCond .ne 7, 3, 0, []) (List.mem_of_getElem? (i := 3) rfl)) rfl (fun (hc176 : ¬ rnw = 0) => ?_) (fun (hc176 : ¬ (¬ rnw = 0)) => ?_)
  · refine zp_const (pc := 12) hx hb (zd_X7_isWord (12, .iconst 0, 1, 0, []) (List.mem_of_getElem? (i := 6) rfl)) rfl rfl ?_
    refine zp_zret (pc := 13) (n := 0) hx hb hE hQ hU5 rfl (by decide) (zd_X7_isWord (13, .ireturn, 1, 0, []) (List.mem_of_getElem? (i := 7) rfl)) (j := 0) rfl (zp_o0 (by omega) (by omega) (by omega) (by omega)) ?_
    rw [hps]
    refine ⟨rfl, rfl, ?_⟩
    show (0 = 1 ↔ _)
    rw [← hx9]
    omega
  · refine zp_const (pc := 8) hx hb (zd_X7_isWord (8, .iconst 1, 1, 0, []) (List.mem_of_getElem? (i := 4) rfl)) rfl rfl ?_
    refine zp_goto (tgt := 13) (pc := 9) hx hb (zd_X7_isWord (9, .goto 4, 3, 0, []) (List.mem_of_getElem? (i := 5) rfl)) rfl ?_
    refine zp_zret (pc := 13) (n := 1) hx hb hE hQ hU5 rfl (by decide) (zd_X7_isWord (13, .ireturn, 1, 0, []) (List.mem_of_getElem? (i := 7) rfl)) (j := 0) rfl (zp_o0 (by omega) (by omega) (by omega) (by omega)) ?_
    rw [hps]
    refine ⟨rfl, rfl, ?_⟩
    show (1 = 1 ↔ _)
    rw [← hx9]
    omega
/-- a row of digits as the class reads it -/
noncomputable def zv_nf (B : Nat → Int) (f : Nat) : Nat → Int
  | 0 => 0
  | k + 1 => min 10000 (zv_nf B f k * 10 + B (f + k) - 48)
theorem zv_nf_d {B : Nat → Int} {f : Nat} : ∀ k, (∀ i, i < k → 48 ≤ B (f + i) ∧ B (f + i) ≤ 57) → 0 ≤ zv_nf B f k ∧ zv_nf B f k ≤ 10000 ∧ (zv_nf B f k < 10000 → zy_dw B f k = zv_nf B f k) ∧ (zv_nf B f k = 10000 → 10000 ≤ zy_dw B f k)
  | 0, _ => ⟨Int.le_refl 0, (show (0 : Int) ≤ 10000 by decide), fun _ => rfl, fun h => absurd (show (0 : Int) = 10000 from h) (by decide)⟩
  | k + 1, h => by
    obtain ⟨h1, h2, h3, h4⟩ := zv_nf_d (B := B) (f := f) k (fun i hi => h i (by omega))
    have hd := h k (by omega)
    have e1 : zv_nf B f (k + 1) = min 10000 (zv_nf B f k * 10 + B (f + k) - 48) := rfl
    have e2 : zy_dw B f (k + 1) = if 1000000 < zy_dw B f k then zy_dw B f k else zy_dw B f k * 10 + B (f + k) - 48 := rfl
    rw [e1, e2]
    by_cases hc : zv_nf B f k < 10000
    · have e3 := h3 hc
      rw [e3, if_neg (by omega)]
      refine ⟨by omega, by omega, fun _ => by omega, fun _ => by omega⟩
    · have e4 := h4 (by omega)
      refine ⟨by omega, by omega, fun z => by omega, fun _ => ?_⟩
      split <;> omega
theorem zBc_dig {t b : Nat} {G : Nat → Nat → Int} {B : Nat → Int} {ln tk : Nat} (h : zTt t b G B ln tk) (hs : zy_so B ln tk = 2) : (∀ i, i < zy_to B ln tk - zy_fr B ln tk → 48 ≤ B (zy_fr B ln tk + i) ∧ B (zy_fr B ln tk + i) ≤ 57) ∧ zy_dw B (zy_fr B ln tk) (zy_to B ln tk - zy_fr B ln tk) = zy_wo B ln tk := by
  have hl := zTt_len h
  constructor
  · intro i hi
    exact zy_dg_i.mp (zy_r_all (len := ln) (p := zy_fr B ln tk) (by omega) (by rw [← zy_to_2 hs]; omega))
  · unfold zy_wo
    rw [if_neg (by omega), if_pos hs]
noncomputable def zK_vnw : zk_K := (zt_mn 65, prog_9_method_11_code, 5, (Option.some Jvm.ClassFile.FieldType.int), 1, 7, [(2, 7, 0, 0), (0, 0, 0, 1), (0, 0, 0, 1000)], [(some (0, 0, (-1), 1000), [])], [], (1, 60, 0, 0))
noncomputable def zφ_vnw (b : Nat) (B : Nat → Int) (ln tk : Nat) : (Nat → Option Nat) → (Nat → Nat → Int) → List Int → Prop := fun P G ps => zTt (zp_0 ps) b G B ln tk
noncomputable def zψ_vnw (b : Nat) (B : Nat → Int) (ln tk : Nat) : (Nat → Option Nat) → (Nat → Nat → Int) → List Int → (Nat → Option Nat) → (Nat → Nat → Int) → Int → Prop := fun P G ps P' G' rn => P' = P ∧ G' = G ∧ rn = if zy_so B ln tk = 2 ∧ ps.getD 1 0 ≤ zy_wo B ln tk ∧ zy_wo B ln tk ≤ ps.getD 2 0 then zy_wo B ln tk else -1
theorem zX_vnw {l : Launch} {w : zk_W} (hW : zh_W w) (b : Nat) (B : Nat → Int) (ln tk : Nat) : zk_metX l w zt_dv zt_TB zK_vnw (zp_A (zφ_vnw b B ln tk)) (zp_B (zψ_vnw b B ln tk)) ∧ zk_cok w zt_TB zK_vnw := by
  refine zp_methX (cn := "WoundTown$Tape") zp_lkallT9 hW (pl := 814) rfl (by decide +kernel) (fun p e R s m args below meth c Q u hx hb hE hQ hU5 heff hnL hok hφ => ?_)
  have hw := hW.1
  obtain ⟨p0, p1, p2, hps, k0, k1, k2⟩ := zp_ps3 hok
  obtain ⟨a, rfl, hp⟩ := zp_this k0
  have hrm : zk_Kr (zk_ev (zt_types, zp_lkT9, zt_dv, [], [], zp_lcT9, zK_vnw)) = zk_Kr zK_vnw := rfl
  rw [hps] at hφ ⊢
  have hi1 := zp_int k1
  have hi2 := zp_int k2
  show zp_J p l e R s m args below meth c Q w u [] 0 [(0, 2, (a : Int)), (1, 0, p1), (2, 0, p2)] [] u.1 (zp_n u.2.1)
  have hT0 : zTt a b (zp_n u.2.1) B ln tk := hφ
  have hT : zTt a b (zp_n u.2.1) B ln tk := hφ
  have hlen := zTt_len hT
  obtain ⟨⟨t0, t1, t2, t3⟩, t5, t6, c2, c3, c4, c5⟩ := hT
  obtain ⟨so, hso⟩ : ∃ x : Nat, x = zy_so B ln tk := ⟨_, rfl⟩
  obtain ⟨f, hf⟩ : ∃ x : Nat, x = zy_fr B ln tk := ⟨_, rfl⟩
  obtain ⟨q, hq⟩ : ∃ x : Nat, x = zy_to B ln tk := ⟨_, rfl⟩
  rw [← hso] at c2
  rw [← hf] at c3 hlen
  rw [← hq] at c4 hlen
  have loop : so = 2 → ∀ (n9 k : Nat), q - f - k < n9 → k ≤ q - f → zp_J p l e R s m args below meth c Q w u [] 18 [(4, 0, ((f + k : Nat) : Int)), (3, 0, (zv_nf B f k)), (0, 2, (a : Int)), (1, 0, p1), (2, 0, p2)] [] u.1 (zp_n u.2.1) := by
    intro hs1 n9
    induction n9 with
    | zero => intro k h; exact absurd h (Nat.not_lt_zero _)
    | succ n9 ih =>
      intro k hn hk
      rw [show ((f + k : Nat) : Int) = (f : Int) + (k : Int) by omega]
      have hdg := zBc_dig hT0 (hso.symm.trans hs1)
      rw [← hf, ← hq] at hdg
      have hnf := zv_nf_d (B := B) (f := f) k (fun i hi => hdg.1 i (by omega))
      obtain ⟨nm, hnm⟩ : ∃ x : Int, x = zv_nf B f k := ⟨_, rfl⟩
      rw [← hnm] at hnf
      rw [← hnm]
      have hnx : zv_nf B f (k + 1) = min 10000 (nm * 10 + B (f + k) - 48) := by
        rw [hnm]
        rfl
      refine zp_load (pc := 18) hx hb (zd_X7_numberWithin (18, .iload 4, 2, 0, []) (List.mem_of_getElem? (i := 11) rfl)) rfl (j := 0) rfl ?_
      refine zp_load (pc := 20) hx hb (zd_X7_numberWithin (20, .aload_n 0, 1, 0, []) (List.mem_of_getElem? (i := 12) rfl)) rfl (j := 2) rfl ?_
      refine zp_getf (n := (q : Int)) (pc := 21) hx hb hE hw (zd_X7_numberWithin (21, .getfield 19, 3, 0, []) (List.mem_of_getElem? (i := 13) rfl)) (j := 5) rfl rfl rfl hp c4 ?_
      refine zp_icmp (pc := 24) (tgt := 54) hx hb (zd_X7_numberWithin (24, .if_icmp .ge 30, 3, 0, []) (List.mem_of_getElem? (i := 14) rfl)) rfl (fun (hc177 : (q : Int) ≤ ((f : Int) + (k : Int))) => ?_) (fun (hc177 : ¬ ((q : Int) ≤ ((f : Int) + (k : Int)))) => ?_)
      · refine zp_load (pc := 54) hx hb (zd_X7_numberWithin (54, .iload_n 3, 1, 0, []) (List.mem_of_getElem? (i := 29) rfl)) rfl (j := 1) rfl ?_
        refine zp_load (pc := 55) hx hb (zd_X7_numberWithin (55, .iload_n 1, 1, 0, []) (List.mem_of_getElem? (i := 30) rfl)) rfl (j := 3) rfl ?_
        refine zp_load (pc := 56) hx hb (zd_X7_numberWithin (56, .iload_n 2, 1, 0, []) (List.mem_of_getElem? (i := 31) rfl)) rfl (j := 4) rfl ?_
        refine zp_call (pc := 57) (how := 4) (idx := 60) (mi := 15) (S := []) hx hb hE hw heff hrm (zX_iwn hW) rfl (j := 5) rfl rfl (by decide +kernel) (zd_X7_numberWithin (57, .invokestatic 60, 3, 0, []) (List.mem_of_getElem? (i := 32) rfl)) [nm, p1, p2] rfl ⟨zp_o0 (by omega) (by omega) (by omega) (by omega), zp_o0 (by omega) (by omega) (by omega) (by omega), zp_o0 (by omega) (by omega) (by omega) (by omega), trivial⟩ (Nat.le_of_ble_eq_true rfl) trivial (fun al hal rni Pi Gi hexti hfri hoki hcsi hpsii => ?_)
        obtain rfl := List.mem_singleton.mp hal
        have hri := zp_int (hoki _ rfl).1
        obtain ⟨hPei, hGei, hti⟩ := hpsii
        rw [hPei, hGei]
        have hti9 : rni = 1 ↔ p1 ≤ nm ∧ nm ≤ p2 := hti
        refine zp_if (pc := 60) (tgt := 67) hx hb (zd_X7_numberWithin (60, .ifCond .eq 7, 3, 0, []) (List.mem_of_getElem? (i := 33) rfl)) rfl (fun (hc178 : rni = 0) => ?_) (fun (hc178 : ¬ (rni = 0)) => ?_)
        · refine zp_const (pc := 67) hx hb (zd_X7_numberWithin (67, .iconst (-1), 1, 0, []) (List.mem_of_getElem? (i := 36) rfl)) rfl rfl ?_
          refine zp_iret (pc := 68) (n := (-1)) hx hb hE hQ hU5 rfl (by decide) (zd_X7_numberWithin (68, .ireturn, 1, 0, []) (List.mem_of_getElem? (i := 37) rfl)) (j := 0) rfl (zp_o0 (by omega) (by omega) (by omega) (by omega)) ?_
          rw [hps]
          refine ⟨rfl, rfl, ?_⟩
          show (-1) = if zy_so B ln tk = 2 ∧ p1 ≤ zy_wo B ln tk ∧ zy_wo B ln tk ≤ p2 then zy_wo B ln tk else -1
          have hkq : k = q - f := by omega
          have hwv : zy_dw B f k = zy_wo B ln tk := by rw [hkq]; exact hdg.2
          rw [← hso]
          by_cases hz : nm < 10000
          · have e := hnf.2.2.1 hz
            rw [← hwv, e]
            by_cases hy : p1 ≤ nm ∧ nm ≤ p2
            · rw [if_pos ⟨hs1, hy⟩] <;> omega
            · rw [if_neg (fun y => hy y.2)] <;> omega
          · have e := hnf.2.2.2 (by omega)
            rw [if_neg (fun y => by omega)] <;> omega
        · refine zp_load (pc := 63) hx hb (zd_X7_numberWithin (63, .iload_n 3, 1, 0, []) (List.mem_of_getElem? (i := 34) rfl)) rfl (j := 1) rfl ?_
          refine zp_goto (tgt := 68) (pc := 64) hx hb (zd_X7_numberWithin (64, .goto 4, 3, 0, []) (List.mem_of_getElem? (i := 35) rfl)) rfl ?_
          refine zp_iret (pc := 68) (n := nm) hx hb hE hQ hU5 rfl (by decide) (zd_X7_numberWithin (68, .ireturn, 1, 0, []) (List.mem_of_getElem? (i := 37) rfl)) (j := 0) rfl (zp_o0 (by omega) (by omega) (by omega) (by omega)) ?_
          rw [hps]
          refine ⟨rfl, rfl, ?_⟩
          show nm = if zy_so B ln tk = 2 ∧ p1 ≤ zy_wo B ln tk ∧ zy_wo B ln tk ≤ p2 then zy_wo B ln tk else -1
          have hkq : k = q - f := by omega
          have hwv : zy_dw B f k = zy_wo B ln tk := by rw [hkq]; exact hdg.2
          rw [← hso]
          by_cases hz : nm < 10000
          · have e := hnf.2.2.1 hz
            rw [← hwv, e]
            by_cases hy : p1 ≤ nm ∧ nm ≤ p2
            · rw [if_pos ⟨hs1, hy⟩] <;> omega
            · rw [if_neg (fun y => hy y.2)] <;> omega
          · have e := hnf.2.2.2 (by omega)
            rw [if_neg (fun y => by omega)] <;> omega
      · refine zp_const (pc := 27) hx hb (zd_X7_numberWithin (27, .sipush 10000, 3, 0, []) (List.mem_of_getElem? (i := 15) rfl)) rfl rfl ?_
        refine zp_load (pc := 30) hx hb (zd_X7_numberWithin (30, .iload_n 3, 1, 0, []) (List.mem_of_getElem? (i := 16) rfl)) rfl (j := 1) rfl ?_
        refine zp_const (pc := 31) hx hb (zd_X7_numberWithin (31, .bipush 10, 2, 0, []) (List.mem_of_getElem? (i := 17) rfl)) rfl rfl ?_
        refine zp_mul (n := (nm * 10)) (pc := 33) hx hb (zd_X7_numberWithin (33, .imul, 1, 0, []) (List.mem_of_getElem? (i := 18) rfl)) (by omega) (zp_r0 (by omega) (by omega)) ?_
        refine zp_load (pc := 34) hx hb (zd_X7_numberWithin (34, .aload_n 0, 1, 0, []) (List.mem_of_getElem? (i := 19) rfl)) rfl (j := 2) rfl ?_
        refine zp_load (pc := 35) hx hb (zd_X7_numberWithin (35, .iload 4, 2, 0, []) (List.mem_of_getElem? (i := 20) rfl)) rfl (j := 0) rfl ?_
        refine zp_call (pc := 37) (how := 0) (idx := 25) (mi := 37) (S := [(0, (nm * 10)), (0, 10000)]) hx hb hE hw heff hrm (zX_bya hW) rfl (j := 1) rfl rfl (by decide +kernel) (zd_X7_numberWithin (37, .invokevirtual 25, 3, 0, []) (List.mem_of_getElem? (i := 21) rfl)) [(a : Int), ((f : Int) + (k : Int))] rfl ⟨zp_o2 hp, zp_o0 (by omega) (by omega) (by omega) (by omega), trivial⟩ (Nat.le_of_ble_eq_true rfl) trivial (fun al hal rnb179 Pb179 Gb179 hextb179 hfrb179 hokb179 hcsb179 hpsib179 => ?_)
        obtain rfl := List.mem_singleton.mp hal
        have hrb179 := zp_int (hokb179 _ rfl).1
        obtain ⟨hPeb179, hGeb179, htb179⟩ := hpsib179
        rw [hPeb179, hGeb179]
        have hvb179 : rnb179 = zBc B ln (f + k) := by
          have h9 := htb179 (f + k) (show ((f : Int) + (k : Int)) = ((f + k : Nat) : Int) by omega)
          unfold zBc
          by_cases z : f + k < ln
          · rw [if_pos z]
            refine (h9.1 (show ((f + k : Nat) : Int) < zp_n u.2.1 a 1 by rw [t1]; omega)).trans ?_
            show zp_n u.2.1 (zp_n u.2.1 a 0).toNat (2000 + (f + k)) = _
            rw [t0, Int.toNat_natCast]
            exact t3 _
          · rw [if_neg z]
            exact h9.2 (show ¬ ((f + k : Nat) : Int) < zp_n u.2.1 a 1 by rw [t1]; omega)
        have hb9 : rnb179 = B (f + k) := by
          rw [hvb179]
          exact if_pos (by omega)
        have hb8 := hdg.1 k (by omega)
        refine zp_add (n := ((nm * 10) + rnb179)) (pc := 40) hx hb (zd_X7_numberWithin (40, .iadd, 1, 0, []) (List.mem_of_getElem? (i := 22) rfl)) (by omega) (zp_r0 (by omega) (by omega)) ?_
        refine zp_const (pc := 41) hx hb (zd_X7_numberWithin (41, .bipush 48, 2, 0, []) (List.mem_of_getElem? (i := 23) rfl)) rfl rfl ?_
        refine zp_sub (n := (((nm * 10) + rnb179) - 48)) (pc := 43) hx hb (zd_X7_numberWithin (43, .isub, 1, 0, []) (List.mem_of_getElem? (i := 24) rfl)) (by omega) (zp_r0 (by omega) (by omega)) ?_
        refine zp_mm (n := (min 10000 (((nm * 10) + rnb179) - 48))) (S := []) (pc := 44) hx hb hE hrm (zd_X7_numberWithin (44, .invokestatic 54, 3, 0, []) (List.mem_of_getElem? (i := 25) rfl)) (j := 7) rfl (Or.inr ⟨rfl, rfl⟩) (by decide) ?_
        refine zp_store (L' := [(3, 0, (min 10000 (((nm * 10) + rnb179) - 48))), (4, 0, ((f : Int) + (k : Int))), (0, 2, (a : Int)), (1, 0, p1), (2, 0, p2)]) (pc := 47) hx hb hnL (zd_X7_numberWithin (47, .istore_n 3, 1, 0, []) (List.mem_of_getElem? (i := 26) rfl)) rfl rfl rfl ?_
        refine zp_iinc (L' := [(4, 0, ((f : Int) + (k : Int) + 1)), (3, 0, (min 10000 (((nm * 10) + rnb179) - 48))), (0, 2, (a : Int)), (1, 0, p1), (2, 0, p2)]) (n := ((f : Int) + (k : Int) + 1)) (pc := 48) hx hb hnL (zd_X7_numberWithin (48, .iinc 4 1, 3, 0, []) (List.mem_of_getElem? (i := 27) rfl)) (j := 1) rfl (by omega) (zp_r0 (by omega) (by omega)) rfl rfl ?_
        refine zp_goto (tgt := 18) (pc := 51) hx hb (zd_X7_numberWithin (51, .goto (-33), 3, 0, []) (List.mem_of_getElem? (i := 28) rfl)) rfl ?_
        refine zp_drop (L' := [(4, 0, ((f + (k + 1) : Nat) : Int)), (3, 0, (min 10000 (((nm * 10) + rnb179) - 48))), (0, 2, (a : Int)), (1, 0, p1), (2, 0, p2)]) (by simp <;> omega) ?_
        have ih9 := ih (k + 1) (by omega) (by omega)
        rw [hnx, ← hb9] at ih9
        exact ih9
  refine zp_load (pc := 0) hx hb (zd_X7_numberWithin (0, .aload_n 0, 1, 0, []) (List.mem_of_getElem? (i := 0) rfl)) rfl (j := 0) rfl ?_
  refine zp_getf (n := (so : Int)) (pc := 1) hx hb hE hw (zd_X7_numberWithin (1, .getfield 35, 3, 0, []) (List.mem_of_getElem? (i := 1) rfl)) (j := 3) rfl rfl rfl hp c2 ?_
  refine zp_const (pc := 4) hx hb (zd_X7_numberWithin (4, .iconst 2, 1, 0, []) (List.mem_of_getElem? (i := 2) rfl)) rfl rfl ?_
  refine zp_icmp (pc := 5) (tgt := 10) hx hb (zd_X7_numberWithin (5, .if_icmp .eq 5, 3, 0, []) (List.mem_of_getElem? (i := 3) rfl)) rfl (fun (hc180 : (so : Int) = 2) => ?_) (fun (hc180 : ¬ ((so : Int) = 2)) => ?_)
  · refine zp_const (pc := 10) hx hb (zd_X7_numberWithin (10, .iconst 0, 1, 0, []) (List.mem_of_getElem? (i := 6) rfl)) rfl rfl ?_
    refine zp_store (L' := [(3, 0, 0), (0, 2, (a : Int)), (1, 0, p1), (2, 0, p2)]) (pc := 11) hx hb hnL (zd_X7_numberWithin (11, .istore_n 3, 1, 0, []) (List.mem_of_getElem? (i := 7) rfl)) rfl rfl rfl ?_
    refine zp_load (pc := 12) hx hb (zd_X7_numberWithin (12, .aload_n 0, 1, 0, []) (List.mem_of_getElem? (i := 8) rfl)) rfl (j := 1) rfl ?_
    refine zp_getf (n := (f : Int)) (pc := 13) hx hb hE hw (zd_X7_numberWithin (13, .getfield 29, 3, 0, []) (List.mem_of_getElem? (i := 9) rfl)) (j := 4) rfl rfl rfl hp c3 ?_
    refine zp_store (L' := [(4, 0, (f : Int)), (3, 0, 0), (0, 2, (a : Int)), (1, 0, p1), (2, 0, p2)]) (pc := 16) hx hb hnL (zd_X7_numberWithin (16, .istore 4, 2, 0, []) (List.mem_of_getElem? (i := 10) rfl)) rfl rfl rfl ?_
    have h9 := loop (by omega) (q - f + 1) 0 (by omega) (by omega)
    refine zp_drop (L' := [(4, 0, ((f + 0 : Nat) : Int)), (3, 0, 0), (0, 2, (a : Int)), (1, 0, p1), (2, 0, p2)]) (by simp) ?_
    exact h9
  · refine zp_const (pc := 8) hx hb (zd_X7_numberWithin (8, .iconst (-1), 1, 0, []) (List.mem_of_getElem? (i := 4) rfl)) rfl rfl ?_
    refine zp_iret (pc := 9) (n := (-1)) hx hb hE hQ hU5 rfl (by decide) (zd_X7_numberWithin (9, .ireturn, 1, 0, []) (List.mem_of_getElem? (i := 5) rfl)) (j := 0) rfl (zp_o0 (by omega) (by omega) (by omega) (by omega)) ?_
    rw [hps]
    refine ⟨rfl, rfl, ?_⟩
    show (-1) = if zy_so B ln tk = 2 ∧ p1 ≤ zy_wo B ln tk ∧ zy_wo B ln tk ≤ p2 then zy_wo B ln tk else -1
    rw [← hso, if_neg (by omega)]
