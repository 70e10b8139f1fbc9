/-! part lp: the reference over logical cells: least, fits -/
section ZLP
variable {p : Program} {l : Launch} {e : Env} {R : Room} {s : State} {m : MethodId} {args : Array Value} {below : List Frame} {meth : Method} {c : Code} {Q : State → Prop}
variable {cc : ByteArray} {w : zk_W} {u : zk_M} {Ts : List Jvm.Cond} {own : String}
variable {xs : List Nat} {pc : Nat} {L : List (Nat × Nat × Int)} {S : List (Nat × Int)} {P : Nat → Option Nat} {G : Nat → Nat → Int}
noncomputable def zw_lshl (a b : Int) : Int := (Int64.ofInt a <<< ((Int32.ofInt b).toInt64 &&& 63)).toInt
theorem zp_lshlx (hx : p.tables.exec = Jvm.exec) (hb : c.code = cc) {a b : Int} (hdgξ : decode cc pc = .ok (.lshl, 1)) (kk : zp_J p l e R s m args below meth c Q w u xs (pc + 1) L ((1, zw_lshl a b) :: S) P G) : zp_J p l e R s m args below meth c Q w u xs pc L ((0, b) :: (1, a) :: S) P G := by
  intro F H locs ls hFξ hIξ hLξ hkLξ hkSξ
  refine lv_lshl hx hb hdgξ rfl ?_
  have e : Int64.ofInt a <<< ((Int32.ofInt b).toInt64 &&& 63) = Int64.ofInt (zw_lshl a b) := by
    unfold zw_lshl
    exact (Int64.ofInt_toInt _).symm
  have h1ξ := Int64.le_toInt (Int64.ofInt a <<< ((Int32.ofInt b).toInt64 &&& 63))
  have h2ξ := Int64.toInt_lt (Int64.ofInt a <<< ((Int32.ofInt b).toInt64 &&& 63))
  have hrξ : zk_rg 1 (zw_lshl a b) := zp_r1 (by unfold zw_lshl; omega) (by unfold zw_lshl; omega)
  rw [e]
  exact kk F H locs ls hFξ hIξ hLξ hkLξ (List.forall_mem_cons.mpr ⟨zp_k1 hrξ, (zp_tl (zp_tl hkSξ).2).2⟩)
end ZLP
theorem zw_lshlb : ∀ {n : Nat}, n ≤ 10 → 1 ≤ zw_lshl 1 (n : Int) ∧ zw_lshl 1 (n : Int) ≤ 1024 := by
  have h : ∀ n : Nat, n < 11 → 1 ≤ zw_lshl 1 (n : Int) ∧ zw_lshl 1 (n : Int) ≤ 1024 := by decide +kernel
  exact fun {n} hnξ => h n (by omega)
/-- are the first sights so -/
noncomputable def zq_so (R : Nat → Int) (n npξ : Nat) (L : List yK) (t : Int) : Nat → Bool
  | 0 => true
  | s + 1 => zq_so R n npξ L t s && decide ((zd_hr R n npξ (zd_sp R L t) (zd_ru R L t) t ((R (3 * s + 154)).toNat + 1)).1 (R (3 * s + 153)).toNat = R (3 * s + 155))
/-- which of the first turns fit, as bits -/
noncomputable def zq_fi (so : Nat → Bool) : Nat → Int
  | 0 => 0
  | t + 1 => if so t = true then zw_or (zq_fi so t) (zw_shl 1 (t : Int)) else zq_fi so t
theorem zq_fib {so : Nat → Bool} : ∀ {t : Nat}, -2147483648 ≤ zq_fi so t ∧ zq_fi so t ≤ 2147483647
  | 0 => (⟨by decide, by decide⟩ : (-2147483648 : Int) ≤ 0 ∧ (0 : Int) ≤ 2147483647)
  | t + 1 => by
    rw [zq_fi]
    split
    · exact zw_orb _ _
    · exact zq_fib (t := t)
/-- the sights of a row -/
noncomputable def zSg (R : Nat → Int) (n1ξ nsξ : Nat) : Prop := nsξ ≤ 8 ∧ R 2 = (nsξ : Int) ∧ ∀ s, s < nsξ → (0 ≤ R (3 * s + 153) ∧ R (3 * s + 153) < (n1ξ : Int)) ∧ 0 ≤ R (3 * s + 154) ∧ R (3 * s + 154) ≤ 23
theorem zq_so_t {R : Nat → Int} {n npξ : Nat} {L : List yK} {t : Int} : ∀ {k : Nat}, zq_so R n npξ L t k = true ↔ ∀ s, s < k → (zd_hr R n npξ (zd_sp R L t) (zd_ru R L t) t ((R (3 * s + 154)).toNat + 1)).1 (R (3 * s + 153)).toNat = R (3 * s + 155)
  | 0 => ⟨fun _ s hsξ => absurd hsξ (Nat.not_lt_zero s), fun _ => rfl⟩
  | k + 1 => by
    rw [zq_so, Bool.and_eq_true, zq_so_t (k := k), decide_eq_true_eq]
    refine ⟨fun h s hsξ => ?_, fun h => ⟨fun s hsξ => h s (by omega), h k (by omega)⟩⟩
    by_cases e : s = k
    · rw [e]
      exact h.2
    · exact h.1 s (by omega)
/-- a whole day of a row -/
noncomputable def zq_X (R : Nat → Int) (n npξ : Nat) (L : List yK) (t : Int) : (Nat → Int) × (Nat → Int) := zd_hr R n npξ (zd_sp R L t) (zd_ru R L t) t 24
/-- howξ much more little by which a work ends in time -/
noncomputable def zq_li (R : Nat → Int) (n npξ : Nat) (L : List yK) (t : Int) (w p : Nat) : Nat → Nat → Int
  | 0, _ => -1
  | r + 1, k => if (zq_X (yu R (3 * p + 13) (R (3 * p + 13) + (k : Int))) n npξ L t).2 w ≠ -1 ∧ (zq_X (yu R (3 * p + 13) (R (3 * p + 13) + (k : Int))) n npξ L t).2 w ≤ R (5 * w + 41) then (k : Int) else zq_li R n npξ L t w p r (k + 1)
noncomputable def zv_li (R : Nat → Int) (n npξ : Nat) (L : List yK) (w : Nat) (t : Int) : Int := if R (w + 29) < R (5 * w + 40) then zq_li R n npξ L t w (R (5 * w + 39)).toNat (10 - R (3 * (R (5 * w + 39)).toNat + 13)).toNat 0 else -1
theorem zd_ok_l {R : Nat → Int} {n npξ p : Nat} {v : Int} (hpξ : p < 6) (hvξ : 0 ≤ v ∧ v ≤ 9) (h : zd_ok R n npξ) : zd_ok (yu R (3 * p + 13) v) n npξ := by
  obtain ⟨h1ξ, h2ξ, h3ξ, h4ξ, h5ξ, h6ξ⟩ := h
  refine ⟨h1ξ, h2ξ, (yu_ne (by omega)).trans h3ξ, (yu_ne (by omega)).trans h4ξ, fun w hwξ => ?_, fun q hqξ => ?_⟩
  · rw [yu_ne (show 5 * w + 43 ≠ 3 * p + 13 by omega), yu_ne (show 5 * w + 40 ≠ 3 * p + 13 by omega), yu_ne (show w + 29 ≠ 3 * p + 13 by omega)]
    exact h5ξ w hwξ
  · by_cases e : q = p
    · rw [e, yu_at]
      exact hvξ
    · rw [yu_ne (by omega)]
      exact h6ξ q hqξ
/-- the owners of a row -/
noncomputable def zOwn (R : Nat → Int) (n1ξ npξ : Nat) : Prop := ∀ w, w < n1ξ → 0 ≤ R (5 * w + 39) ∧ R (5 * w + 39) < (npξ : Int)
noncomputable def zK_isbt : zk_K := (zt_mn 258, prog_14_method_4_code, 2, (Option.some Jvm.ClassFile.FieldType.boolean), 0, 12, [(0, 0, (-2147483648), 2147483647), (0, 0, (-2147483648), 2147483647)], [(some (0, 0, 0, 1), [])], [], (0, 0, 0, 0))
noncomputable def zψ_isbt : (Nat → Option Nat) → (Nat → Nat → Int) → List Int → (Nat → Option Nat) → (Nat → Nat → Int) → Int → Prop := fun P G ps P' G' rn => P' = P ∧ G' = G ∧ True
theorem zX_isbt {l : Launch} {w : zk_W} (hWξ : zh_W w) : zk_metX l w zt_dv zt_TB zK_isbt (zp_A zp_tA) (zp_B zψ_isbt) ∧ zk_cok w zt_TB zK_isbt := by
  refine zp_methX (cn := "WoundTownModel") zp_lkall hWξ (pl := 1884) rfl (by decide +kernel) (fun p e R s m args below meth c Q u hx hb hEξ hQξ hU5ξ heffξ hnLξ hokξ hφ => ?_)
  have hwξ := hWξ.1
  obtain ⟨p0ξ, p1ξ, hpsξ, k0, k1ξ⟩ := zp_ps2 hokξ
  have hrmξ : zk_Kr (zk_ev (zt_types, zp_lk, zt_dv, [], [], zp_lc, zK_isbt)) = zk_Kr zK_isbt := rfl
  rw [hpsξ] at hφ ⊢
  have hi0ξ := zp_int k0
  have hi1ξ := zp_int k1ξ
  show zp_J p l e R s m args below meth c Q w u [] 0 [(0, 0, p0ξ), (1, 0, p1ξ)] [] u.1 (zp_n u.2.1)
  refine zp_load (pc := 0) hx hb (zd_X12_is (0, .iload_n 0, 1, 0, []) (List.mem_of_getElem? (i := 0) rfl)) rfl (j := 0) rfl ?_
  refine zp_load (pc := 1) hx hb (zd_X12_is (1, .iload_n 1, 1, 0, []) (List.mem_of_getElem? (i := 1) rfl)) rfl (j := 1) rfl ?_
  refine zp_bin (o := 7) (la := -2147483648) (ha := 2147483647) (lb := -2147483648) (hb' := 2147483647) (pc := 2) hx hb (zd_X12_is (2, .ishr, 1, 0, []) (List.mem_of_getElem? (i := 2) rfl)) rfl (fun h => absurd h (by decide)) (by omega) (by omega) (by omega) (by omega) (fun x548 r_x548 l_x548 h_x548 => ?_)
  have i_x548 := zp_rg0 r_x548
  refine zp_const (pc := 3) hx hb (zd_X12_is (3, .iconst 1, 1, 0, []) (List.mem_of_getElem? (i := 3) rfl)) rfl rfl ?_
  refine zp_bin (o := 3) (la := -2147483648) (ha := 2147483647) (lb := 1) (hb' := 1) (pc := 4) hx hb (zd_X12_is (4, .iand, 1, 0, []) (List.mem_of_getElem? (i := 4) rfl)) rfl (fun h => absurd h (by decide)) (by omega) (by omega) (by omega) (by omega) (fun x549 r_x549 l_x549 h_x549 => ?_)
  have i_x549 := zp_rg0 r_x549
  have j_x549 : 0 ≤ x549 ∧ x549 ≤ 1 := ⟨l_x549, h_x549⟩
  refine zp_const (pc := 5) hx hb (zd_X12_is (5, .iconst 1, 1, 0, []) (List.mem_of_getElem? (i := 5) rfl)) rfl rfl ?_
  refine zp_icmp (pc := 6) (tgt := 13) hx hb (zd_X12_is (6, .if_icmp .ne 7, 3, 0, []) (List.mem_of_getElem? (i := 6) rfl)) rfl (fun (hc550ξ : ¬ x549 = 1) => ?_) (fun (hc550ξ : ¬ (¬ x549 = 1)) => ?_)
  · refine zp_const (pc := 13) hx hb (zd_X12_is (13, .iconst 0, 1, 0, []) (List.mem_of_getElem? (i := 9) rfl)) rfl rfl ?_
    refine zp_zret (pc := 14) (n := 0) hx hb hEξ hQξ hU5ξ rfl (by decide) (zd_X12_is (14, .ireturn, 1, 0, []) (List.mem_of_getElem? (i := 10) rfl)) (j := 0) rfl (zp_o0 (by omega) (by omega) (by omega) (by omega)) ?_
    rw [hpsξ]
    exact ⟨rfl, rfl, trivial⟩
  · refine zp_const (pc := 9) hx hb (zd_X12_is (9, .iconst 1, 1, 0, []) (List.mem_of_getElem? (i := 7) rfl)) rfl rfl ?_
    refine zp_goto (tgt := 14) (pc := 10) hx hb (zd_X12_is (10, .goto 4, 3, 0, []) (List.mem_of_getElem? (i := 8) rfl)) rfl ?_
    refine zp_zret (pc := 14) (n := 1) hx hb hEξ hQξ hU5ξ rfl (by decide) (zd_X12_is (14, .ireturn, 1, 0, []) (List.mem_of_getElem? (i := 10) rfl)) (j := 0) rfl (zp_o0 (by omega) (by omega) (by omega) (by omega)) ?_
    rw [hpsξ]
    exact ⟨rfl, rfl, trivial⟩
noncomputable def zK_lst : zk_K := (zt_mn 257, prog_14_method_83_code, 6, (Option.some Jvm.ClassFile.FieldType.int), 1, 12, [(2, 13, 0, 0), (0, 0, (-2147483648), 2147483647)], [(some (0, 0, (-2147483648), 2147483647), [])], zUE, (6, 380, 0, 0))
noncomputable def zφ_lst (A : Nat → Nat) (V : Nat → Nat → Int) (n1ξ npξ : Nat) (Lwξ : List yK) : (Nat → Option Nat) → (Nat → Nat → Int) → List Int → Prop := fun P G ps => zMVr A V P G ∧ ps.getD 0 0 = (A 0 : Int) ∧ zLV V Lwξ ∧ zd_ok (zRw V) n1ξ npξ ∧ V 0 47 = -1
noncomputable def zψ_lst (A : Nat → Nat) (V : Nat → Nat → Int) (n1ξ npξ : Nat) (Lwξ : List yK) : (Nat → Option Nat) → (Nat → Nat → Int) → List Int → (Nat → Option Nat) → (Nat → Nat → Int) → Int → Prop := fun P G ps P' G' rn => P' = P ∧ zMVr A (zp_set V 0 0 0) P' G'
theorem zX_lst {l : Launch} {w : zk_W} (hWξ : zh_W w) (A : Nat → Nat) (V : Nat → Nat → Int) (n1ξ npξ : Nat) (Lwξ : List yK) : zk_metX l w zt_dv zt_TB zK_lst (zp_A (zφ_lst A V n1ξ npξ Lwξ)) (zp_B (zψ_lst A V n1ξ npξ Lwξ)) ∧ zk_cok w zt_TB zK_lst := by
  refine zp_methX (cn := "WoundTownModel") zp_lkall hWξ (pl := 1881) rfl (by decide +kernel) (fun p e R s m args below meth c Q u hx hb hEξ hQξ hU5ξ heffξ hnLξ hokξ hφ => ?_)
  have hwξ := hWξ.1
  obtain ⟨p0ξ, p1ξ, hpsξ, tk0, tk1⟩ := zp_ps2 hokξ
  have hrmξ : zk_Kr (zk_ev (zt_types, zp_lk, zt_dv, [], [], zp_lc, zK_lst)) = zk_Kr zK_lst := rfl
  rw [hpsξ] at hφ ⊢
  have hφ : zMVr A V u.1 (zp_n u.2.1) ∧ p0ξ = (A 0 : Int) ∧ zLV V Lwξ ∧ zd_ok (zRw V) n1ξ npξ ∧ V 0 47 = -1 := hφ
  obtain ⟨⟨M, hMξ, hVξ, hSbξ⟩, rfl, hLVξ, hDξ, h47ξ⟩ := hφ
  have hi1ξ := zp_int tk1
  show zp_J p l e R s m args below meth c Q w u [] 0 [(0, 2, (A 0 : Int)), (1, 0, p1ξ)] [] u.1 (zp_n u.2.1)
  have hDkξ := hDξ
  obtain ⟨hn10ξ, hnp6ξ, hn1ξ, hnpξ, hDwξ, hDpξ⟩ := hDξ
  have hn1ξ : V 3 (2000 + 1) = (n1ξ : Int) := hn1ξ
  have hnpξ : V 3 (2000 + 0) = (npξ : Int) := hnpξ
  refine zp_load (pc := 0) hx hb (zd_X12_least (0, .aload_n 0, 1, 0, []) (List.mem_of_getElem? (i := 0) rfl)) rfl (j := 0) rfl ?_
  refine zp_const (pc := 1) hx hb (zd_X12_least (1, .iconst 0, 1, 0, []) (List.mem_of_getElem? (i := 1) rfl)) rfl rfl ?_
  refine zp_putf (pc := 2) hx hb hEξ hwξ heffξ (zd_X12_least (2, .putfield 161, 3, 0, []) (List.mem_of_getElem? (i := 2) rfl)) (j := 18) rfl rfl rfl (zM_P hMξ (List.mem_of_getElem? (i := 0) rfl)) (zp_o0 (by decide) (by decide) (by decide) (by decide)) ?_
  refine zp_load (pc := 5) hx hb (zd_X12_least (5, .iload_n 1, 1, 0, []) (List.mem_of_getElem? (i := 3) rfl)) rfl (j := 1) rfl ?_
  refine zp_i2l (pc := 6) hx hb (zd_X12_least (6, .i2l, 1, 0, []) (List.mem_of_getElem? (i := 4) rfl)) ?_
  refine zp_const (pc := 7) hx hb (zd_X12_least (7, .lconst 1, 1, 0, []) (List.mem_of_getElem? (i := 5) rfl)) rfl rfl ?_
  refine zp_const (pc := 8) hx hb (zd_X12_least (8, .lconst 1, 1, 0, []) (List.mem_of_getElem? (i := 6) rfl)) rfl rfl ?_
  refine zp_load (pc := 9) hx hb (zd_X12_least (9, .aload_n 0, 1, 0, []) (List.mem_of_getElem? (i := 7) rfl)) rfl (j := 0) rfl ?_
  refine zp_getf (n := (A 3 : Int)) (pc := 10) hx hb hEξ hwξ (zd_X12_least (10, .getfield 13, 3, 0, []) (List.mem_of_getElem? (i := 8) rfl)) (j := 21) rfl rfl rfl (zM_P hMξ (List.mem_of_getElem? (i := 0) rfl)) ((zp_set_ne (Or.inr (by decide))).trans (((zM_G hMξ (List.mem_of_getElem? (i := 0) rfl) 3).trans (zM_F hMξ (List.mem_of_getElem? (i := 1) rfl))))) ?_
  refine zp_const (pc := 13) hx hb (zd_X12_least (13, .iconst 1, 1, 0, []) (List.mem_of_getElem? (i := 9) rfl)) rfl rfl ?_
  refine zp_ialdT (j := 1) (v := (n1ξ : Int)) (pc := 14) hx hb hwξ (zd_X12_least (14, .iaload, 1, 0, []) (List.mem_of_getElem? (i := 10) rfl)) zl_T59 rfl (zl_kd 1) (zM_P hMξ (List.mem_of_getElem? (i := 2) rfl)) (by omega) (show 1 < 5580 by omega) ((zp_set_ne (Or.inl (zM_ne hMξ (List.mem_of_getElem? (i := 2) rfl) (List.mem_of_getElem? (i := 0) rfl) (by decide)))).trans ((((zM_G hMξ (List.mem_of_getElem? (i := 2) rfl) (2000 + 1)).trans (hVξ 3 (2000 + 1) (Or.inl (by decide)))).trans hn1ξ))) (fun _ => ?_)
  show zp_J p l e R s m args below meth c Q w u [] 15 [(0, 2, (A 0 : Int)), (1, 0, p1ξ)] [(0, (n1ξ : Int)), (1, 1), (1, 1), (1, p1ξ)] u.1 (zp_set (zp_n u.2.1) (A 0) 0 0)
  refine zp_lshlx (pc := 15) hx hb (zd_X12_least (15, .lshl, 1, 0, []) (List.mem_of_getElem? (i := 11) rfl)) ?_
  have hlsξ := zw_lshlb (n := n1ξ) (by omega)
  refine zp_const (pc := 16) hx hb (zd_X12_least (16, .lconst 1, 1, 0, []) (List.mem_of_getElem? (i := 12) rfl)) rfl rfl ?_
  refine zp_lsubx (n := ((zw_lshl 1 (n1ξ : Int)) - 1)) (pc := 17) hx hb (zd_X12_least (17, .lsub, 1, 0, []) (List.mem_of_getElem? (i := 13) rfl)) (by omega) (zp_r1 (by omega) (by omega)) ?_
  refine zp_call (pc := 18) (how := 1) (idx := 181) (mi := 186) (S := []) hx hb hEξ hwξ heffξ hrmξ (zX_in2 hWξ) rfl (j := 2) rfl rfl (by decide +kernel) (zd_X12_least (18, .invokestatic 181, 3, 0, []) (List.mem_of_getElem? (i := 14) rfl)) [p1ξ, 1, ((zw_lshl 1 (n1ξ : Int)) - 1)] rfl ⟨zp_o1 (by first | assumption | exact zp_r1 (by omega) (by omega)), zp_o1 (by first | assumption | exact zp_r1 (by omega) (by omega)), zp_o1 (by first | assumption | exact zp_r1 (by omega) (by omega)), trivial⟩ (Nat.le_of_ble_eq_true rfl) trivial (fun al halξ rnn552ξ Pn552 Gn552 hextn552ξ hfrn552ξ hokn552ξ hcsn552ξ hpsin552ξ => ?_)
  obtain rfl := List.mem_singleton.mp halξ
  have hrn552ξ := zp_int (hokn552ξ _ rfl).1
  obtain ⟨hPen552ξ, hGen552ξ, htn552ξ⟩ := hpsin552ξ
  rw [hPen552ξ, hGen552ξ]
  clear hextn552ξ hfrn552ξ hcsn552ξ hPen552ξ hGen552ξ
  have htn552ξ : rnn552ξ = 1 ↔ 1 ≤ p1ξ ∧ p1ξ ≤ ((zw_lshl 1 (n1ξ : Int)) - 1) := htn552ξ
  refine zp_if (pc := 21) (tgt := 26) hx hb (zd_X12_least (21, .ifCond .ne 5, 3, 0, []) (List.mem_of_getElem? (i := 15) rfl)) rfl (fun (hc553ξ : ¬ rnn552ξ = 0) => ?_) (fun (hc553ξ : ¬ (¬ rnn552ξ = 0)) => ?_)
  · have hbt554ξ := (Iff.mp htn552ξ) (by omega)
    refine zp_const (pc := 26) hx hb (zd_X12_least (26, .iconst 0, 1, 0, []) (List.mem_of_getElem? (i := 18) rfl)) rfl rfl ?_
    refine zp_store (L' := [(2, 0, 0), (0, 2, (A 0 : Int)), (1, 0, p1ξ)]) (pc := 27) hx hb hnLξ (zd_X12_least (27, .istore_n 2, 1, 0, []) (List.mem_of_getElem? (i := 19) rfl)) rfl rfl rfl ?_
    obtain ⟨V0, hV0ξ⟩ : ∃ V0 : Nat → Nat → Int, V0 = V := ⟨V, rfl⟩
    subst hV0ξ
    obtain ⟨V, hVdξ⟩ : ∃ V : Nat → Nat → Int, V = (zp_set V0 0 0 0) := ⟨_, rfl⟩
    have hRzξ : zRw V = zRw V0 := by
      rw [hVdξ]
      exact funext fun j => zp_set_ne (Or.inl (by decide))
    have hLVξ : zLV V Lwξ := by
      rw [hVdξ]
      exact zLV_o (by decide) (Or.inr (by decide)) hLVξ
    have hDkξ : zd_ok (zRw V) n1ξ npξ := by rw [hRzξ]; exact hDkξ
    have h47ξ : V 0 47 = -1 := by
      rw [hVdξ]
      exact (zp_set_ne (Or.inr (by decide))).trans h47ξ
    have hn1ξ : V 3 (2000 + 1) = (n1ξ : Int) := hDkξ.2.2.1
    have hnpξ : V 3 (2000 + 0) = (npξ : Int) := hDkξ.2.2.2.1
    have hRξ := hLVξ.1
    have hV9ξ : ∀ o k, zNs o k → (zp_set M 0 0 0) o k = V o k := by
      rw [hVdξ]
      exact (zV_set hVξ)
    have loopt : ∀ (r9ξ t9ξ : Nat) (b9ξ : Int) (M : Nat → Nat → Int) (G : Nat → Nat → Int), r9ξ + t9ξ = 13 → -1 ≤ b9ξ → b9ξ ≤ 12 → zM A zYr zFr M u.1 G → (∀ o k, zNs o k → M o k = V o k) → zSb M → zp_J p l e R s m args below meth c Q w u [] 66 [(3, 0, (t9ξ : Int)), (2, 0, b9ξ), (0, 2, (A 0 : Int)), (1, 0, p1ξ)] [] u.1 G := by
      clear hV9ξ
      intro r9ξ
      induction r9ξ with
      | zero =>
        intro t9ξ b9ξ M G hrξ hb0ξ hb1ξ hMξ hVξ hSbξ
        refine zp_load (pc := 66) hx hb (zd_X12_least (66, .iload_n 3, 1, 0, []) (List.mem_of_getElem? (i := 42) rfl)) rfl (j := 0) rfl ?_
        refine zp_const (pc := 67) hx hb (zd_X12_least (67, .bipush 12, 2, 0, []) (List.mem_of_getElem? (i := 43) rfl)) rfl rfl ?_
        refine zp_icmp (pc := 69) (tgt := 152) hx hb (zd_X12_least (69, .if_icmp .gt 83, 3, 0, []) (List.mem_of_getElem? (i := 44) rfl)) rfl (fun (hc556ξ : 12 < (t9ξ : Int)) => ?_) (fun (hc556ξ : ¬ (12 < (t9ξ : Int))) => ?_)
        · refine zp_load (pc := 152) hx hb (zd_X12_least (152, .iload_n 2, 1, 0, []) (List.mem_of_getElem? (i := 85) rfl)) rfl (j := 1) rfl ?_
          refine zp_iret (pc := 153) (n := b9ξ) hx hb hEξ hQξ hU5ξ rfl (by decide) (zd_X12_least (153, .ireturn, 1, 0, []) (List.mem_of_getElem? (i := 86) rfl)) (j := 0) rfl (zp_o0 (by omega) (by omega) (by omega) (by omega)) ?_
          rw [hpsξ]
          refine ⟨rfl, ?_⟩
          rw [← hVdξ]
          exact ⟨M, hMξ, hVξ, hSbξ⟩
        · exfalso
          omega
      | succ r9ξ ih =>
        intro t9ξ b9ξ M G hrξ hb0ξ hb1ξ hMξ hVξ hSbξ
        refine zp_load (pc := 66) hx hb (zd_X12_least (66, .iload_n 3, 1, 0, []) (List.mem_of_getElem? (i := 42) rfl)) rfl (j := 0) rfl ?_
        refine zp_const (pc := 67) hx hb (zd_X12_least (67, .bipush 12, 2, 0, []) (List.mem_of_getElem? (i := 43) rfl)) rfl rfl ?_
        refine zp_icmp (pc := 69) (tgt := 152) hx hb (zd_X12_least (69, .if_icmp .gt 83, 3, 0, []) (List.mem_of_getElem? (i := 44) rfl)) rfl (fun (hc557ξ : 12 < (t9ξ : Int)) => ?_) (fun (hc557ξ : ¬ (12 < (t9ξ : Int))) => ?_)
        · exfalso
          omega
        · refine zp_load (pc := 72) hx hb (zd_X12_least (72, .iload_n 2, 1, 0, []) (List.mem_of_getElem? (i := 45) rfl)) rfl (j := 1) rfl ?_
          refine zp_const (pc := 73) hx hb (zd_X12_least (73, .iconst (-1), 1, 0, []) (List.mem_of_getElem? (i := 46) rfl)) rfl rfl ?_
          refine zp_icmp (pc := 74) (tgt := 152) hx hb (zd_X12_least (74, .if_icmp .ne 78, 3, 0, []) (List.mem_of_getElem? (i := 47) rfl)) rfl (fun (hc558ξ : ¬ b9ξ = (-1)) => ?_) (fun (hc558ξ : ¬ (¬ b9ξ = (-1))) => ?_)
          · refine zp_load (pc := 152) hx hb (zd_X12_least (152, .iload_n 2, 1, 0, []) (List.mem_of_getElem? (i := 85) rfl)) rfl (j := 1) rfl ?_
            refine zp_iret (pc := 153) (n := b9ξ) hx hb hEξ hQξ hU5ξ rfl (by decide) (zd_X12_least (153, .ireturn, 1, 0, []) (List.mem_of_getElem? (i := 86) rfl)) (j := 0) rfl (zp_o0 (by omega) (by omega) (by omega) (by omega)) ?_
            rw [hpsξ]
            refine ⟨rfl, ?_⟩
            rw [← hVdξ]
            exact ⟨M, hMξ, hVξ, hSbξ⟩
          · refine zp_load (pc := 77) hx hb (zd_X12_least (77, .aload_n 0, 1, 0, []) (List.mem_of_getElem? (i := 48) rfl)) rfl (j := 2) rfl ?_
            refine zp_load (pc := 78) hx hb (zd_X12_least (78, .iload_n 3, 1, 0, []) (List.mem_of_getElem? (i := 49) rfl)) rfl (j := 0) rfl ?_
            have hVyξ : ∀ o k, zNs o k → M o k = V o k := hVξ
            have h47yξ : V 0 47 = -1 := (Eq.trans rfl h47ξ)
            have hLyξ : zLV V Lwξ := hLVξ
            refine zp_call (pc := 79) (how := 0) (idx := 457) (mi := 248) (S := []) hx hb hEξ hwξ heffξ hrmξ (zX_lay hWξ A M n1ξ npξ (zRw V) Lwξ) rfl (j := 47) rfl rfl (by decide +kernel) (zd_X12_least (79, .invokevirtual 457, 3, 0, []) (List.mem_of_getElem? (i := 50) rfl)) [(A 0 : Int), (t9ξ : Int)] rfl ⟨zp_o2 (zM_P hMξ (List.mem_of_getElem? (i := 0) rfl)), zp_o0 (by omega) (by omega) (by omega) (by omega), trivial⟩ (Nat.le_of_ble_eq_true rfl) ⟨hMξ, rfl, (hVyξ 0 47 (Or.inr (by decide))).trans h47yξ, (hVyξ 0 20 (Or.inr (by decide))).trans hLyξ.2.2.2.2, hDkξ, fun j => (hVyξ 3 _ (Or.inl (by decide))).trans (rfl), hLVξ.1, hLVξ.2.1, hLVξ.2.2.1, hSbξ, (show (0 : Int) ≤ (t9ξ : Int) by omega), (show ((t9ξ : Int) : Int) ≤ 12 by omega)⟩ (fun al halξ rnl Pl Gl hextlξ hfrlξ hoklξ hcslξ hpsilξ => ?_)
            obtain rfl := List.mem_singleton.mp halξ
            obtain ⟨hPelξ, Ml, hMlξ, htlξ⟩ := hpsilξ
            subst hPelξ
            obtain ⟨hNlξ, hSlξ, hDlξ, hxlξ⟩ := htlξ
            have hVlξ : ∀ o k, zNs o k → Ml o k = V o k := fun o k hkξ => (hNlξ o k hkξ).trans (hVyξ o k hkξ)
            have hRlξ : ∀ j, j < 5580 → -2147483648 ≤ Ml 3 (2000 + j) ∧ Ml 3 (2000 + j) ≤ 2147483647 := fun j hjξ => by rw [hVlξ 3 _ (Or.inl (by decide))]; exact hRξ j hjξ
            refine zp_const (pc := 82) hx hb (zd_X12_least (82, .iconst 1, 1, 0, []) (List.mem_of_getElem? (i := 51) rfl)) rfl rfl ?_
            refine zp_store (L' := [(4, 0, 1), (3, 0, (t9ξ : Int)), (2, 0, b9ξ), (0, 2, (A 0 : Int)), (1, 0, p1ξ)]) (pc := 83) hx hb hnLξ (zd_X12_least (83, .istore 4, 2, 0, []) (List.mem_of_getElem? (i := 52) rfl)) rfl rfl rfl ?_
            refine zp_const (pc := 85) hx hb (zd_X12_least (85, .iconst 0, 1, 0, []) (List.mem_of_getElem? (i := 53) rfl)) rfl rfl ?_
            refine zp_store (L' := [(5, 0, 0), (4, 0, 1), (3, 0, (t9ξ : Int)), (2, 0, b9ξ), (0, 2, (A 0 : Int)), (1, 0, p1ξ)]) (pc := 86) hx hb hnLξ (zd_X12_least (86, .istore 5, 2, 0, []) (List.mem_of_getElem? (i := 54) rfl)) rfl rfl rfl ?_
            have loopi : ∀ (q9ξ i9ξ : Nat) (s9ξ : Int), q9ξ + i9ξ = n1ξ → 0 ≤ s9ξ → s9ξ ≤ 1 → zp_J p l e R s m args below meth c Q w u [] 88 [(5, 0, (i9ξ : Int)), (4, 0, s9ξ), (3, 0, (t9ξ : Int)), (2, 0, b9ξ), (0, 2, (A 0 : Int)), (1, 0, p1ξ)] [] u.1 Gl := by
              intro q9ξ
              induction q9ξ with
              | zero =>
                intro i9ξ s9ξ hqξ hs0ξ hs1ξ
                refine zp_load (pc := 88) hx hb (zd_X12_least (88, .iload 5, 2, 0, []) (List.mem_of_getElem? (i := 55) rfl)) rfl (j := 0) rfl ?_
                refine zp_load (pc := 90) hx hb (zd_X12_least (90, .aload_n 0, 1, 0, []) (List.mem_of_getElem? (i := 56) rfl)) rfl (j := 4) rfl ?_
                refine zp_getf (n := (A 3 : Int)) (pc := 91) hx hb hEξ hwξ (zd_X12_least (91, .getfield 13, 3, 0, []) (List.mem_of_getElem? (i := 57) rfl)) (j := 21) rfl rfl rfl (zM_P hMlξ (List.mem_of_getElem? (i := 0) rfl)) ((zM_G hMlξ (List.mem_of_getElem? (i := 0) rfl) 3).trans (zM_F hMlξ (List.mem_of_getElem? (i := 1) rfl))) ?_
                refine zp_const (pc := 94) hx hb (zd_X12_least (94, .iconst 1, 1, 0, []) (List.mem_of_getElem? (i := 58) rfl)) rfl rfl ?_
                refine zp_ialdT (j := 1) (v := (n1ξ : Int)) (pc := 95) hx hb hwξ (zd_X12_least (95, .iaload, 1, 0, []) (List.mem_of_getElem? (i := 59) rfl)) zl_T59 rfl (zl_kd 1) (zM_P hMlξ (List.mem_of_getElem? (i := 2) rfl)) (by omega) (show 1 < 5580 by omega) (((zM_G hMlξ (List.mem_of_getElem? (i := 2) rfl) (2000 + 1)).trans (hVlξ 3 (2000 + 1) (Or.inl (by decide)))).trans (hn1ξ)) (fun _ => ?_)
                refine zp_icmp (pc := 96) (tgt := 135) hx hb (zd_X12_least (96, .if_icmp .ge 39, 3, 0, []) (List.mem_of_getElem? (i := 60) rfl)) rfl (fun (hc560ξ : (n1ξ : Int) ≤ (i9ξ : Int)) => ?_) (fun (hc560ξ : ¬ ((n1ξ : Int) ≤ (i9ξ : Int))) => ?_)
                · refine zp_load (pc := 135) hx hb (zd_X12_least (135, .iload 4, 2, 0, []) (List.mem_of_getElem? (i := 77) rfl)) rfl (j := 1) rfl ?_
                  refine zp_if (pc := 137) (tgt := 144) hx hb (zd_X12_least (137, .ifCond .eq 7, 3, 0, []) (List.mem_of_getElem? (i := 78) rfl)) rfl (fun (hc561ξ : s9ξ = 0) => ?_) (fun (hc561ξ : ¬ (s9ξ = 0)) => ?_)
                  · refine zp_const (pc := 144) hx hb (zd_X12_least (144, .iconst (-1), 1, 0, []) (List.mem_of_getElem? (i := 81) rfl)) rfl rfl ?_
                    refine zp_store (L' := [(2, 0, (-1)), (5, 0, (i9ξ : Int)), (4, 0, s9ξ), (3, 0, (t9ξ : Int)), (0, 2, (A 0 : Int)), (1, 0, p1ξ)]) (pc := 145) hx hb hnLξ (zd_X12_least (145, .istore_n 2, 1, 0, []) (List.mem_of_getElem? (i := 82) rfl)) rfl rfl rfl ?_
                    refine zp_iinc (L' := [(3, 0, ((t9ξ : Int) + 1)), (2, 0, (-1)), (5, 0, (i9ξ : Int)), (4, 0, s9ξ), (0, 2, (A 0 : Int)), (1, 0, p1ξ)]) (n := ((t9ξ : Int) + 1)) (pc := 146) hx hb hnLξ (zd_X12_least (146, .iinc 3 1, 3, 0, []) (List.mem_of_getElem? (i := 83) rfl)) (j := 3) rfl (by omega) (zp_r0 (by omega) (by omega)) rfl rfl ?_
                    refine zp_goto (tgt := 66) (pc := 149) hx hb (zd_X12_least (149, .goto (-83), 3, 0, []) (List.mem_of_getElem? (i := 84) rfl)) rfl ?_
                    refine zp_drop (L' := [(3, 0, ((t9ξ : Int) + 1)), (2, 0, (-1)), (0, 2, (A 0 : Int)), (1, 0, p1ξ)]) (by simp) ?_
                    exact ih (t9ξ + 1) (-1) Ml Gl (by omega) (by omega) (by omega) hMlξ hVlξ hSlξ
                  · refine zp_load (pc := 140) hx hb (zd_X12_least (140, .iload_n 3, 1, 0, []) (List.mem_of_getElem? (i := 79) rfl)) rfl (j := 2) rfl ?_
                    refine zp_goto (tgt := 145) (pc := 141) hx hb (zd_X12_least (141, .goto 4, 3, 0, []) (List.mem_of_getElem? (i := 80) rfl)) rfl ?_
                    refine zp_store (L' := [(2, 0, (t9ξ : Int)), (5, 0, (i9ξ : Int)), (4, 0, s9ξ), (3, 0, (t9ξ : Int)), (0, 2, (A 0 : Int)), (1, 0, p1ξ)]) (pc := 145) hx hb hnLξ (zd_X12_least (145, .istore_n 2, 1, 0, []) (List.mem_of_getElem? (i := 82) rfl)) rfl rfl rfl ?_
                    refine zp_iinc (L' := [(3, 0, ((t9ξ : Int) + 1)), (2, 0, (t9ξ : Int)), (5, 0, (i9ξ : Int)), (4, 0, s9ξ), (0, 2, (A 0 : Int)), (1, 0, p1ξ)]) (n := ((t9ξ : Int) + 1)) (pc := 146) hx hb hnLξ (zd_X12_least (146, .iinc 3 1, 3, 0, []) (List.mem_of_getElem? (i := 83) rfl)) (j := 3) rfl (by omega) (zp_r0 (by omega) (by omega)) rfl rfl ?_
                    refine zp_goto (tgt := 66) (pc := 149) hx hb (zd_X12_least (149, .goto (-83), 3, 0, []) (List.mem_of_getElem? (i := 84) rfl)) rfl ?_
                    refine zp_drop (L' := [(3, 0, ((t9ξ : Int) + 1)), (2, 0, (t9ξ : Int)), (0, 2, (A 0 : Int)), (1, 0, p1ξ)]) (by simp) ?_
                    exact ih (t9ξ + 1) (t9ξ : Int) Ml Gl (by omega) (by omega) (by omega) hMlξ hVlξ hSlξ
                · exfalso
                  omega
              | succ q9ξ ihi =>
                intro i9ξ s9ξ hqξ hs0ξ hs1ξ
                refine zp_load (pc := 88) hx hb (zd_X12_least (88, .iload 5, 2, 0, []) (List.mem_of_getElem? (i := 55) rfl)) rfl (j := 0) rfl ?_
                refine zp_load (pc := 90) hx hb (zd_X12_least (90, .aload_n 0, 1, 0, []) (List.mem_of_getElem? (i := 56) rfl)) rfl (j := 4) rfl ?_
                refine zp_getf (n := (A 3 : Int)) (pc := 91) hx hb hEξ hwξ (zd_X12_least (91, .getfield 13, 3, 0, []) (List.mem_of_getElem? (i := 57) rfl)) (j := 21) rfl rfl rfl (zM_P hMlξ (List.mem_of_getElem? (i := 0) rfl)) ((zM_G hMlξ (List.mem_of_getElem? (i := 0) rfl) 3).trans (zM_F hMlξ (List.mem_of_getElem? (i := 1) rfl))) ?_
                refine zp_const (pc := 94) hx hb (zd_X12_least (94, .iconst 1, 1, 0, []) (List.mem_of_getElem? (i := 58) rfl)) rfl rfl ?_
                refine zp_ialdT (j := 1) (v := (n1ξ : Int)) (pc := 95) hx hb hwξ (zd_X12_least (95, .iaload, 1, 0, []) (List.mem_of_getElem? (i := 59) rfl)) zl_T59 rfl (zl_kd 1) (zM_P hMlξ (List.mem_of_getElem? (i := 2) rfl)) (by omega) (show 1 < 5580 by omega) (((zM_G hMlξ (List.mem_of_getElem? (i := 2) rfl) (2000 + 1)).trans (hVlξ 3 (2000 + 1) (Or.inl (by decide)))).trans (hn1ξ)) (fun _ => ?_)
                refine zp_icmp (pc := 96) (tgt := 135) hx hb (zd_X12_least (96, .if_icmp .ge 39, 3, 0, []) (List.mem_of_getElem? (i := 60) rfl)) rfl (fun (hc563ξ : (n1ξ : Int) ≤ (i9ξ : Int)) => ?_) (fun (hc563ξ : ¬ ((n1ξ : Int) ≤ (i9ξ : Int))) => ?_)
                · exfalso
                  omega
                · refine zp_load (pc := 99) hx hb (zd_X12_least (99, .iload 4, 2, 0, []) (List.mem_of_getElem? (i := 61) rfl)) rfl (j := 1) rfl ?_
                  refine zp_if (pc := 101) (tgt := 126) hx hb (zd_X12_least (101, .ifCond .eq 25, 3, 0, []) (List.mem_of_getElem? (i := 62) rfl)) rfl (fun (hc564ξ : s9ξ = 0) => ?_) (fun (hc564ξ : ¬ (s9ξ = 0)) => ?_)
                  · refine zp_const (pc := 126) hx hb (zd_X12_least (126, .iconst 0, 1, 0, []) (List.mem_of_getElem? (i := 73) rfl)) rfl rfl ?_
                    refine zp_store (L' := [(4, 0, 0), (5, 0, (i9ξ : Int)), (3, 0, (t9ξ : Int)), (2, 0, b9ξ), (0, 2, (A 0 : Int)), (1, 0, p1ξ)]) (pc := 127) hx hb hnLξ (zd_X12_least (127, .istore 4, 2, 0, []) (List.mem_of_getElem? (i := 74) rfl)) rfl rfl rfl ?_
                    refine zp_iinc (L' := [(5, 0, ((i9ξ : Int) + 1)), (4, 0, 0), (3, 0, (t9ξ : Int)), (2, 0, b9ξ), (0, 2, (A 0 : Int)), (1, 0, p1ξ)]) (n := ((i9ξ : Int) + 1)) (pc := 129) hx hb hnLξ (zd_X12_least (129, .iinc 5 1, 3, 0, []) (List.mem_of_getElem? (i := 75) rfl)) (j := 1) rfl (by omega) (zp_r0 (by omega) (by omega)) rfl rfl ?_
                    refine zp_goto (tgt := 88) (pc := 132) hx hb (zd_X12_least (132, .goto (-44), 3, 0, []) (List.mem_of_getElem? (i := 76) rfl)) rfl ?_
                    refine zp_drop (L' := [(5, 0, ((i9ξ : Int) + 1)), (4, 0, 0), (3, 0, (t9ξ : Int)), (2, 0, b9ξ), (0, 2, (A 0 : Int)), (1, 0, p1ξ)]) (by simp) ?_
                    exact ihi (i9ξ + 1) 0 (by omega) (by omega) (by omega)
                  · refine zp_load (pc := 104) hx hb (zd_X12_least (104, .iload_n 1, 1, 0, []) (List.mem_of_getElem? (i := 63) rfl)) rfl (j := 5) rfl ?_
                    refine zp_load (pc := 105) hx hb (zd_X12_least (105, .iload 5, 2, 0, []) (List.mem_of_getElem? (i := 64) rfl)) rfl (j := 0) rfl ?_
                    refine zp_call (pc := 107) (how := 1) (idx := 468) (mi := 258) (S := []) hx hb hEξ hwξ heffξ hrmξ (zX_isbt hWξ) rfl (j := 54) rfl rfl (by decide +kernel) (zd_X12_least (107, .invokestatic 468, 3, 0, []) (List.mem_of_getElem? (i := 65) rfl)) [p1ξ, (i9ξ : Int)] rfl ⟨zp_o0 (by omega) (by omega) (by omega) (by omega), zp_o0 (by omega) (by omega) (by omega) (by omega), trivial⟩ (Nat.le_of_ble_eq_true rfl) trivial (fun al halξ rnb565ξ Pb565 Gb565 hextb565ξ hfrb565ξ hokb565ξ hcsb565ξ hpsib565ξ => ?_)
                    obtain rfl := List.mem_singleton.mp halξ
                    have hrb565ξ := zp_int (hokb565ξ _ rfl).1
                    obtain ⟨hPeb565ξ, hGeb565ξ, htb565ξ⟩ := hpsib565ξ
                    rw [hPeb565ξ, hGeb565ξ]
                    clear hextb565ξ hfrb565ξ hcsb565ξ hPeb565ξ hGeb565ξ
                    refine zp_if (pc := 110) (tgt := 122) hx hb (zd_X12_least (110, .ifCond .eq 12, 3, 0, []) (List.mem_of_getElem? (i := 66) rfl)) rfl (fun (hc566ξ : rnb565ξ = 0) => ?_) (fun (hc566ξ : ¬ (rnb565ξ = 0)) => ?_)
                    · refine zp_const (pc := 122) hx hb (zd_X12_least (122, .iconst 1, 1, 0, []) (List.mem_of_getElem? (i := 71) rfl)) rfl rfl ?_
                      refine zp_goto (tgt := 127) (pc := 123) hx hb (zd_X12_least (123, .goto 4, 3, 0, []) (List.mem_of_getElem? (i := 72) rfl)) rfl ?_
                      refine zp_store (L' := [(4, 0, 1), (5, 0, (i9ξ : Int)), (3, 0, (t9ξ : Int)), (2, 0, b9ξ), (0, 2, (A 0 : Int)), (1, 0, p1ξ)]) (pc := 127) hx hb hnLξ (zd_X12_least (127, .istore 4, 2, 0, []) (List.mem_of_getElem? (i := 74) rfl)) rfl rfl rfl ?_
                      refine zp_iinc (L' := [(5, 0, ((i9ξ : Int) + 1)), (4, 0, 1), (3, 0, (t9ξ : Int)), (2, 0, b9ξ), (0, 2, (A 0 : Int)), (1, 0, p1ξ)]) (n := ((i9ξ : Int) + 1)) (pc := 129) hx hb hnLξ (zd_X12_least (129, .iinc 5 1, 3, 0, []) (List.mem_of_getElem? (i := 75) rfl)) (j := 1) rfl (by omega) (zp_r0 (by omega) (by omega)) rfl rfl ?_
                      refine zp_goto (tgt := 88) (pc := 132) hx hb (zd_X12_least (132, .goto (-44), 3, 0, []) (List.mem_of_getElem? (i := 76) rfl)) rfl ?_
                      refine zp_drop (L' := [(5, 0, ((i9ξ : Int) + 1)), (4, 0, 1), (3, 0, (t9ξ : Int)), (2, 0, b9ξ), (0, 2, (A 0 : Int)), (1, 0, p1ξ)]) (by simp) ?_
                      exact ihi (i9ξ + 1) 1 (by omega) (by omega) (by omega)
                    · refine zp_load (pc := 113) hx hb (zd_X12_least (113, .aload_n 0, 1, 0, []) (List.mem_of_getElem? (i := 67) rfl)) rfl (j := 4) rfl ?_
                      refine zp_load (pc := 114) hx hb (zd_X12_least (114, .iload 5, 2, 0, []) (List.mem_of_getElem? (i := 68) rfl)) rfl (j := 0) rfl ?_
                      refine zp_call (pc := 116) (how := 0) (idx := 465) (mi := 256) (S := []) hx hb hEξ hwξ heffξ hrmξ (zX_iitx hWξ A Ml i9ξ) rfl (j := 53) rfl rfl (by decide +kernel) (zd_X12_least (116, .invokevirtual 465, 3, 0, []) (List.mem_of_getElem? (i := 69) rfl)) [(A 0 : Int), (i9ξ : Int)] rfl ⟨zp_o2 (zM_P hMlξ (List.mem_of_getElem? (i := 0) rfl)), zp_o0 (by omega) (by omega) (by omega) (by omega), trivial⟩ (Nat.le_of_ble_eq_true rfl) ⟨hMlξ, rfl, rfl, by omega, hRlξ⟩ (fun al halξ rne567ξ Pe567 Ge567 hexte567ξ hfre567ξ hoke567ξ hcse567ξ hpsie567ξ => ?_)
                      obtain rfl := List.mem_singleton.mp halξ
                      have hre567ξ := zp_int (hoke567ξ _ rfl).1
                      obtain ⟨hPee567ξ, hGee567ξ, hte567ξ⟩ := hpsie567ξ
                      rw [hPee567ξ, hGee567ξ]
                      clear hexte567ξ hfre567ξ hcse567ξ hPee567ξ hGee567ξ
                      clear hte567ξ
                      refine zp_if (pc := 119) (tgt := 126) hx hb (zd_X12_least (119, .ifCond .eq 7, 3, 0, []) (List.mem_of_getElem? (i := 70) rfl)) rfl (fun (hc568ξ : rne567ξ = 0) => ?_) (fun (hc568ξ : ¬ (rne567ξ = 0)) => ?_)
                      · refine zp_const (pc := 126) hx hb (zd_X12_least (126, .iconst 0, 1, 0, []) (List.mem_of_getElem? (i := 73) rfl)) rfl rfl ?_
                        refine zp_store (L' := [(4, 0, 0), (5, 0, (i9ξ : Int)), (3, 0, (t9ξ : Int)), (2, 0, b9ξ), (0, 2, (A 0 : Int)), (1, 0, p1ξ)]) (pc := 127) hx hb hnLξ (zd_X12_least (127, .istore 4, 2, 0, []) (List.mem_of_getElem? (i := 74) rfl)) rfl rfl rfl ?_
                        refine zp_iinc (L' := [(5, 0, ((i9ξ : Int) + 1)), (4, 0, 0), (3, 0, (t9ξ : Int)), (2, 0, b9ξ), (0, 2, (A 0 : Int)), (1, 0, p1ξ)]) (n := ((i9ξ : Int) + 1)) (pc := 129) hx hb hnLξ (zd_X12_least (129, .iinc 5 1, 3, 0, []) (List.mem_of_getElem? (i := 75) rfl)) (j := 1) rfl (by omega) (zp_r0 (by omega) (by omega)) rfl rfl ?_
                        refine zp_goto (tgt := 88) (pc := 132) hx hb (zd_X12_least (132, .goto (-44), 3, 0, []) (List.mem_of_getElem? (i := 76) rfl)) rfl ?_
                        refine zp_drop (L' := [(5, 0, ((i9ξ : Int) + 1)), (4, 0, 0), (3, 0, (t9ξ : Int)), (2, 0, b9ξ), (0, 2, (A 0 : Int)), (1, 0, p1ξ)]) (by simp) ?_
                        exact ihi (i9ξ + 1) 0 (by omega) (by omega) (by omega)
                      · refine zp_const (pc := 122) hx hb (zd_X12_least (122, .iconst 1, 1, 0, []) (List.mem_of_getElem? (i := 71) rfl)) rfl rfl ?_
                        refine zp_goto (tgt := 127) (pc := 123) hx hb (zd_X12_least (123, .goto 4, 3, 0, []) (List.mem_of_getElem? (i := 72) rfl)) rfl ?_
                        refine zp_store (L' := [(4, 0, 1), (5, 0, (i9ξ : Int)), (3, 0, (t9ξ : Int)), (2, 0, b9ξ), (0, 2, (A 0 : Int)), (1, 0, p1ξ)]) (pc := 127) hx hb hnLξ (zd_X12_least (127, .istore 4, 2, 0, []) (List.mem_of_getElem? (i := 74) rfl)) rfl rfl rfl ?_
                        refine zp_iinc (L' := [(5, 0, ((i9ξ : Int) + 1)), (4, 0, 1), (3, 0, (t9ξ : Int)), (2, 0, b9ξ), (0, 2, (A 0 : Int)), (1, 0, p1ξ)]) (n := ((i9ξ : Int) + 1)) (pc := 129) hx hb hnLξ (zd_X12_least (129, .iinc 5 1, 3, 0, []) (List.mem_of_getElem? (i := 75) rfl)) (j := 1) rfl (by omega) (zp_r0 (by omega) (by omega)) rfl rfl ?_
                        refine zp_goto (tgt := 88) (pc := 132) hx hb (zd_X12_least (132, .goto (-44), 3, 0, []) (List.mem_of_getElem? (i := 76) rfl)) rfl ?_
                        refine zp_drop (L' := [(5, 0, ((i9ξ : Int) + 1)), (4, 0, 1), (3, 0, (t9ξ : Int)), (2, 0, b9ξ), (0, 2, (A 0 : Int)), (1, 0, p1ξ)]) (by simp) ?_
                        exact ihi (i9ξ + 1) 1 (by omega) (by omega) (by omega)
            refine zp_drop (L' := [(5, 0, 0), (4, 0, 1), (3, 0, (t9ξ : Int)), (2, 0, b9ξ), (0, 2, (A 0 : Int)), (1, 0, p1ξ)]) (by simp) ?_
            exact loopi n1ξ 0 1 (by omega) (by decide) (by decide)
    have loopw : ∀ (r9ξ i9ξ : Nat) (M : Nat → Nat → Int) (G : Nat → Nat → Int), r9ξ + i9ξ = n1ξ → zM A zYr zFr M u.1 G → (∀ o k, zNs o k → M o k = V o k) → zSb M → zp_J p l e R s m args below meth c Q w u [] 28 [(2, 0, (i9ξ : Int)), (0, 2, (A 0 : Int)), (1, 0, p1ξ)] [] u.1 G := by
      clear hV9ξ
      intro r9ξ
      induction r9ξ with
      | zero =>
        intro i9ξ M G hrξ hMξ hVξ hSbξ
        refine zp_load (pc := 28) hx hb (zd_X12_least (28, .iload_n 2, 1, 0, []) (List.mem_of_getElem? (i := 20) rfl)) rfl (j := 0) rfl ?_
        refine zp_load (pc := 29) hx hb (zd_X12_least (29, .aload_n 0, 1, 0, []) (List.mem_of_getElem? (i := 21) rfl)) rfl (j := 1) rfl ?_
        refine zp_getf (n := (A 3 : Int)) (pc := 30) hx hb hEξ hwξ (zd_X12_least (30, .getfield 13, 3, 0, []) (List.mem_of_getElem? (i := 22) rfl)) (j := 21) rfl rfl rfl (zM_P hMξ (List.mem_of_getElem? (i := 0) rfl)) ((zM_G hMξ (List.mem_of_getElem? (i := 0) rfl) 3).trans (zM_F hMξ (List.mem_of_getElem? (i := 1) rfl))) ?_
        refine zp_const (pc := 33) hx hb (zd_X12_least (33, .iconst 1, 1, 0, []) (List.mem_of_getElem? (i := 23) rfl)) rfl rfl ?_
        refine zp_ialdT (j := 1) (v := (n1ξ : Int)) (pc := 34) hx hb hwξ (zd_X12_least (34, .iaload, 1, 0, []) (List.mem_of_getElem? (i := 24) rfl)) zl_T59 rfl (zl_kd 1) (zM_P hMξ (List.mem_of_getElem? (i := 2) rfl)) (by omega) (show 1 < 5580 by omega) (((zM_G hMξ (List.mem_of_getElem? (i := 2) rfl) (2000 + 1)).trans (hVξ 3 (2000 + 1) (Or.inl (by decide)))).trans hn1ξ) (fun _ => ?_)
        refine zp_icmp (pc := 35) (tgt := 62) hx hb (zd_X12_least (35, .if_icmp .ge 27, 3, 0, []) (List.mem_of_getElem? (i := 25) rfl)) rfl (fun (hc570ξ : (n1ξ : Int) ≤ (i9ξ : Int)) => ?_) (fun (hc570ξ : ¬ ((n1ξ : Int) ≤ (i9ξ : Int))) => ?_)
        · refine zp_const (pc := 62) hx hb (zd_X12_least (62, .iconst (-1), 1, 0, []) (List.mem_of_getElem? (i := 38) rfl)) rfl rfl ?_
          refine zp_store (L' := [(2, 0, (-1)), (0, 2, (A 0 : Int)), (1, 0, p1ξ)]) (pc := 63) hx hb hnLξ (zd_X12_least (63, .istore_n 2, 1, 0, []) (List.mem_of_getElem? (i := 39) rfl)) rfl rfl rfl ?_
          refine zp_const (pc := 64) hx hb (zd_X12_least (64, .iconst 0, 1, 0, []) (List.mem_of_getElem? (i := 40) rfl)) rfl rfl ?_
          refine zp_store (L' := [(3, 0, 0), (2, 0, (-1)), (0, 2, (A 0 : Int)), (1, 0, p1ξ)]) (pc := 65) hx hb hnLξ (zd_X12_least (65, .istore_n 3, 1, 0, []) (List.mem_of_getElem? (i := 41) rfl)) rfl rfl rfl ?_
          refine zp_drop (L' := [(3, 0, 0), (2, 0, (-1)), (0, 2, (A 0 : Int)), (1, 0, p1ξ)]) (by simp) ?_
          exact loopt 13 0 (-1) M G (by omega) (by decide) (by decide) hMξ hVξ hSbξ
        · exfalso
          omega
      | succ r9ξ ih =>
        intro i9ξ M G hrξ hMξ hVξ hSbξ
        refine zp_load (pc := 28) hx hb (zd_X12_least (28, .iload_n 2, 1, 0, []) (List.mem_of_getElem? (i := 20) rfl)) rfl (j := 0) rfl ?_
        refine zp_load (pc := 29) hx hb (zd_X12_least (29, .aload_n 0, 1, 0, []) (List.mem_of_getElem? (i := 21) rfl)) rfl (j := 1) rfl ?_
        refine zp_getf (n := (A 3 : Int)) (pc := 30) hx hb hEξ hwξ (zd_X12_least (30, .getfield 13, 3, 0, []) (List.mem_of_getElem? (i := 22) rfl)) (j := 21) rfl rfl rfl (zM_P hMξ (List.mem_of_getElem? (i := 0) rfl)) ((zM_G hMξ (List.mem_of_getElem? (i := 0) rfl) 3).trans (zM_F hMξ (List.mem_of_getElem? (i := 1) rfl))) ?_
        refine zp_const (pc := 33) hx hb (zd_X12_least (33, .iconst 1, 1, 0, []) (List.mem_of_getElem? (i := 23) rfl)) rfl rfl ?_
        refine zp_ialdT (j := 1) (v := (n1ξ : Int)) (pc := 34) hx hb hwξ (zd_X12_least (34, .iaload, 1, 0, []) (List.mem_of_getElem? (i := 24) rfl)) zl_T59 rfl (zl_kd 1) (zM_P hMξ (List.mem_of_getElem? (i := 2) rfl)) (by omega) (show 1 < 5580 by omega) (((zM_G hMξ (List.mem_of_getElem? (i := 2) rfl) (2000 + 1)).trans (hVξ 3 (2000 + 1) (Or.inl (by decide)))).trans hn1ξ) (fun _ => ?_)
        refine zp_icmp (pc := 35) (tgt := 62) hx hb (zd_X12_least (35, .if_icmp .ge 27, 3, 0, []) (List.mem_of_getElem? (i := 25) rfl)) rfl (fun (hc572ξ : (n1ξ : Int) ≤ (i9ξ : Int)) => ?_) (fun (hc572ξ : ¬ ((n1ξ : Int) ≤ (i9ξ : Int))) => ?_)
        · exfalso
          omega
        · refine zp_load (pc := 38) hx hb (zd_X12_least (38, .iload_n 1, 1, 0, []) (List.mem_of_getElem? (i := 26) rfl)) rfl (j := 2) rfl ?_
          refine zp_load (pc := 39) hx hb (zd_X12_least (39, .iload_n 2, 1, 0, []) (List.mem_of_getElem? (i := 27) rfl)) rfl (j := 0) rfl ?_
          refine zp_call (pc := 40) (how := 1) (idx := 468) (mi := 258) (S := []) hx hb hEξ hwξ heffξ hrmξ (zX_isbt hWξ) rfl (j := 54) rfl rfl (by decide +kernel) (zd_X12_least (40, .invokestatic 468, 3, 0, []) (List.mem_of_getElem? (i := 28) rfl)) [p1ξ, (i9ξ : Int)] rfl ⟨zp_o0 (by omega) (by omega) (by omega) (by omega), zp_o0 (by omega) (by omega) (by omega) (by omega), trivial⟩ (Nat.le_of_ble_eq_true rfl) trivial (fun al halξ rnb573ξ Pb573 Gb573 hextb573ξ hfrb573ξ hokb573ξ hcsb573ξ hpsib573ξ => ?_)
          obtain rfl := List.mem_singleton.mp halξ
          have hrb573ξ := zp_int (hokb573ξ _ rfl).1
          obtain ⟨hPeb573ξ, hGeb573ξ, htb573ξ⟩ := hpsib573ξ
          rw [hPeb573ξ, hGeb573ξ]
          clear hextb573ξ hfrb573ξ hcsb573ξ hPeb573ξ hGeb573ξ
          refine zp_if (pc := 43) (tgt := 56) hx hb (zd_X12_least (43, .ifCond .eq 13, 3, 0, []) (List.mem_of_getElem? (i := 29) rfl)) rfl (fun (hc574ξ : rnb573ξ = 0) => ?_) (fun (hc574ξ : ¬ (rnb573ξ = 0)) => ?_)
          · refine zp_iinc (L' := [(2, 0, ((i9ξ : Int) + 1)), (0, 2, (A 0 : Int)), (1, 0, p1ξ)]) (n := ((i9ξ : Int) + 1)) (pc := 56) hx hb hnLξ (zd_X12_least (56, .iinc 2 1, 3, 0, []) (List.mem_of_getElem? (i := 36) rfl)) (j := 0) rfl (by omega) (zp_r0 (by omega) (by omega)) rfl rfl ?_
            refine zp_goto (tgt := 28) (pc := 59) hx hb (zd_X12_least (59, .goto (-31), 3, 0, []) (List.mem_of_getElem? (i := 37) rfl)) rfl ?_
            refine zp_drop (L' := [(2, 0, ((i9ξ : Int) + 1)), (0, 2, (A 0 : Int)), (1, 0, p1ξ)]) (by simp) ?_
            exact ih (i9ξ + 1) M G (by omega) hMξ hVξ hSbξ
          · refine zp_load (pc := 46) hx hb (zd_X12_least (46, .aload_n 0, 1, 0, []) (List.mem_of_getElem? (i := 30) rfl)) rfl (j := 1) rfl ?_
            refine zp_load (pc := 47) hx hb (zd_X12_least (47, .iload_n 2, 1, 0, []) (List.mem_of_getElem? (i := 31) rfl)) rfl (j := 0) rfl ?_
            refine zp_call (pc := 48) (how := 0) (idx := 210) (mi := 197) (S := []) hx hb hEξ hwξ heffξ hrmξ (zX_iov hWξ A M i9ξ) rfl (j := 8) rfl rfl (by decide +kernel) (zd_X12_least (48, .invokevirtual 210, 3, 0, []) (List.mem_of_getElem? (i := 32) rfl)) [(A 0 : Int), (i9ξ : Int)] rfl ⟨zp_o2 (zM_P hMξ (List.mem_of_getElem? (i := 0) rfl)), zp_o0 (by omega) (by omega) (by omega) (by omega), trivial⟩ (Nat.le_of_ble_eq_true rfl) ⟨hMξ, rfl, (show ((i9ξ : Int) : Int) = ((i9ξ : Nat) : Int) by omega), by omega, (by rw [(hVξ 3 (2000 + (i9ξ + 29)) (Or.inl (by decide)))]; exact hRξ (i9ξ + 29) (by omega)), (by rw [(hVξ 3 (2000 + (5 * i9ξ + 40)) (Or.inl (by decide)))]; exact hRξ (5 * i9ξ + 40) (by omega))⟩ (fun al halξ rno575ξ Po575 Go575 hexto575ξ hfro575ξ hoko575ξ hcso575ξ hpsio575ξ => ?_)
            obtain rfl := List.mem_singleton.mp halξ
            have hro575ξ := zp_int (hoko575ξ _ rfl).1
            obtain ⟨hPeo575ξ, hGeo575ξ, hto575ξ⟩ := hpsio575ξ
            rw [hPeo575ξ, hGeo575ξ]
            clear hexto575ξ hfro575ξ hcso575ξ hPeo575ξ hGeo575ξ
            have hto575ξ : rno575ξ = 1 ↔ (V 3 (2000 + (i9ξ + 29))) = (V 3 (2000 + (5 * i9ξ + 40))) := by
              have h9ξ : rno575ξ = 1 ↔ M 3 (2000 + (i9ξ + 29)) = M 3 (2000 + (5 * i9ξ + 40)) := hto575ξ
              rw [(hVξ 3 (2000 + (i9ξ + 29)) (Or.inl (by decide))), (hVξ 3 (2000 + (5 * i9ξ + 40)) (Or.inl (by decide)))] at h9ξ
              exact h9ξ
            refine zp_if (pc := 51) (tgt := 56) hx hb (zd_X12_least (51, .ifCond .eq 5, 3, 0, []) (List.mem_of_getElem? (i := 33) rfl)) rfl (fun (hc576ξ : rno575ξ = 0) => ?_) (fun (hc576ξ : ¬ (rno575ξ = 0)) => ?_)
            · refine zp_iinc (L' := [(2, 0, ((i9ξ : Int) + 1)), (0, 2, (A 0 : Int)), (1, 0, p1ξ)]) (n := ((i9ξ : Int) + 1)) (pc := 56) hx hb hnLξ (zd_X12_least (56, .iinc 2 1, 3, 0, []) (List.mem_of_getElem? (i := 36) rfl)) (j := 0) rfl (by omega) (zp_r0 (by omega) (by omega)) rfl rfl ?_
              refine zp_goto (tgt := 28) (pc := 59) hx hb (zd_X12_least (59, .goto (-31), 3, 0, []) (List.mem_of_getElem? (i := 37) rfl)) rfl ?_
              refine zp_drop (L' := [(2, 0, ((i9ξ : Int) + 1)), (0, 2, (A 0 : Int)), (1, 0, p1ξ)]) (by simp) ?_
              exact ih (i9ξ + 1) M G (by omega) hMξ hVξ hSbξ
            · refine zp_const (pc := 54) hx hb (zd_X12_least (54, .iconst (-1), 1, 0, []) (List.mem_of_getElem? (i := 34) rfl)) rfl rfl ?_
              refine zp_iret (pc := 55) (n := (-1)) hx hb hEξ hQξ hU5ξ rfl (by decide) (zd_X12_least (55, .ireturn, 1, 0, []) (List.mem_of_getElem? (i := 35) rfl)) (j := 0) rfl (zp_o0 (by omega) (by omega) (by omega) (by omega)) ?_
              rw [hpsξ]
              refine ⟨rfl, ?_⟩
              rw [← hVdξ]
              exact ⟨M, hMξ, hVξ, hSbξ⟩
    refine zp_drop (L' := [(2, 0, 0), (0, 2, (A 0 : Int)), (1, 0, p1ξ)]) (by simp) ?_
    exact loopw n1ξ 0 (zp_set M 0 0 0) (zp_set (zp_n u.2.1) (A 0) 0 0) (by omega) (zM_set hMξ (List.mem_of_getElem? (i := 0) rfl) (by decide)) hV9ξ (zSb_set (by decide) hSbξ)
  · have hbf555ξ : ¬ (1 ≤ p1ξ ∧ p1ξ ≤ ((zw_lshl 1 (n1ξ : Int)) - 1)) := fun h9ξ => absurd ((Iff.mpr htn552ξ) h9ξ) (by omega)
    refine zp_const (pc := 24) hx hb (zd_X12_least (24, .iconst (-1), 1, 0, []) (List.mem_of_getElem? (i := 16) rfl)) rfl rfl ?_
    refine zp_iret (pc := 25) (n := (-1)) hx hb hEξ hQξ hU5ξ rfl (by decide) (zd_X12_least (25, .ireturn, 1, 0, []) (List.mem_of_getElem? (i := 17) rfl)) (j := 0) rfl (zp_o0 (by omega) (by omega) (by omega) (by omega)) ?_
    rw [hpsξ]
    refine ⟨rfl, ?_⟩
    exact ⟨(zp_set M 0 0 0), (zM_set hMξ (List.mem_of_getElem? (i := 0) rfl) (by decide)), (zV_set hVξ), (zSb_set (by decide) hSbξ)⟩
noncomputable def zK_fit : zk_K := (zt_mn 268, prog_14_method_92_code, 6, (Option.some Jvm.ClassFile.FieldType.int), 1, 12, [(2, 13, 0, 0)], [(some (0, 0, (-2147483648), 2147483647), [])], zUE, (6, 380, 0, 0))
noncomputable def zφ_fit (A : Nat → Nat) (V : Nat → Nat → Int) (n1ξ npξ nsξ : Nat) (Lwξ : List yK) : (Nat → Option Nat) → (Nat → Nat → Int) → List Int → Prop := fun P G ps => zMVr A V P G ∧ ps.getD 0 0 = (A 0 : Int) ∧ zLV V Lwξ ∧ zd_ok (zRw V) n1ξ npξ ∧ V 0 47 = -1 ∧ zSg (zRw V) n1ξ nsξ
noncomputable def zψ_fit (A : Nat → Nat) (V : Nat → Nat → Int) (n1ξ npξ nsξ : Nat) (Lwξ : List yK) : (Nat → Option Nat) → (Nat → Nat → Int) → List Int → (Nat → Option Nat) → (Nat → Nat → Int) → Int → Prop := fun P G ps P' G' rn => P' = P ∧ zMVr A (zp_set V 0 0 0) P' G' ∧ rn = (zq_fi (fun t => zq_so (zRw V) n1ξ npξ Lwξ (t : Int) nsξ) 13)
theorem zX_fit {l : Launch} {w : zk_W} (hWξ : zh_W w) (A : Nat → Nat) (V : Nat → Nat → Int) (n1ξ npξ nsξ : Nat) (Lwξ : List yK) : zk_metX l w zt_dv zt_TB zK_fit (zp_A (zφ_fit A V n1ξ npξ nsξ Lwξ)) (zp_B (zψ_fit A V n1ξ npξ nsξ Lwξ)) ∧ zk_cok w zt_TB zK_fit := by
  refine zp_methX (cn := "WoundTownModel") zp_lkall hWξ (pl := 1926) rfl (by decide +kernel) (fun p e R s m args below meth c Q u hx hb hEξ hQξ hU5ξ heffξ hnLξ hokξ hφ => ?_)
  have hwξ := hWξ.1
  obtain ⟨p0ξ, hpsξ, tk0⟩ := zp_ps1 hokξ
  have hrmξ : zk_Kr (zk_ev (zt_types, zp_lk, zt_dv, [], [], zp_lc, zK_fit)) = zk_Kr zK_fit := rfl
  rw [hpsξ] at hφ ⊢
  have hφ : zMVr A V u.1 (zp_n u.2.1) ∧ p0ξ = (A 0 : Int) ∧ zLV V Lwξ ∧ zd_ok (zRw V) n1ξ npξ ∧ V 0 47 = -1 ∧ zSg (zRw V) n1ξ nsξ := hφ
  obtain ⟨⟨M, hMξ, hVξ, hSbξ⟩, rfl, hLVξ, hDξ, h47ξ, hsgξ⟩ := hφ
  show zp_J p l e R s m args below meth c Q w u [] 0 [(0, 2, (A 0 : Int))] [] u.1 (zp_n u.2.1)
  have hDkξ := hDξ
  obtain ⟨hn10ξ, hnp6ξ, hn1ξ, hnpξ, hDwξ, hDpξ⟩ := hDξ
  have hn1ξ : V 3 (2000 + 1) = (n1ξ : Int) := hn1ξ
  have hnpξ : V 3 (2000 + 0) = (npξ : Int) := hnpξ
  have hns8ξ := hsgξ.1
  refine zp_load (pc := 0) hx hb (zd_X12_fits (0, .aload_n 0, 1, 0, []) (List.mem_of_getElem? (i := 0) rfl)) rfl (j := 0) rfl ?_
  refine zp_const (pc := 1) hx hb (zd_X12_fits (1, .iconst 0, 1, 0, []) (List.mem_of_getElem? (i := 1) rfl)) rfl rfl ?_
  refine zp_putf (pc := 2) hx hb hEξ hwξ heffξ (zd_X12_fits (2, .putfield 161, 3, 0, []) (List.mem_of_getElem? (i := 2) rfl)) (j := 18) rfl rfl rfl (zM_P hMξ (List.mem_of_getElem? (i := 0) rfl)) (zp_o0 (by decide) (by decide) (by decide) (by decide)) ?_
  refine zp_const (pc := 5) hx hb (zd_X12_fits (5, .iconst 0, 1, 0, []) (List.mem_of_getElem? (i := 3) rfl)) rfl rfl ?_
  refine zp_store (L' := [(1, 0, 0), (0, 2, (A 0 : Int))]) (pc := 6) hx hb hnLξ (zd_X12_fits (6, .istore_n 1, 1, 0, []) (List.mem_of_getElem? (i := 4) rfl)) rfl rfl rfl ?_
  refine zp_const (pc := 7) hx hb (zd_X12_fits (7, .iconst 0, 1, 0, []) (List.mem_of_getElem? (i := 5) rfl)) rfl rfl ?_
  refine zp_store (L' := [(2, 0, 0), (1, 0, 0), (0, 2, (A 0 : Int))]) (pc := 8) hx hb hnLξ (zd_X12_fits (8, .istore_n 2, 1, 0, []) (List.mem_of_getElem? (i := 6) rfl)) rfl rfl rfl ?_
  obtain ⟨V0, hV0ξ⟩ : ∃ V0 : Nat → Nat → Int, V0 = V := ⟨V, rfl⟩
  subst hV0ξ
  obtain ⟨V, hVdξ⟩ : ∃ V : Nat → Nat → Int, V = (zp_set V0 0 0 0) := ⟨_, rfl⟩
  have hRzξ : zRw V = zRw V0 := by
    rw [hVdξ]
    exact funext fun j => zp_set_ne (Or.inl (by decide))
  have hLVξ : zLV V Lwξ := by
    rw [hVdξ]
    exact zLV_o (by decide) (Or.inr (by decide)) hLVξ
  have hDkξ : zd_ok (zRw V) n1ξ npξ := by rw [hRzξ]; exact hDkξ
  have h47ξ : V 0 47 = -1 := by
    rw [hVdξ]
    exact (zp_set_ne (Or.inr (by decide))).trans h47ξ
  have hn1ξ : V 3 (2000 + 1) = (n1ξ : Int) := hDkξ.2.2.1
  have hnpξ : V 3 (2000 + 0) = (npξ : Int) := hDkξ.2.2.2.1
  have hRξ := hLVξ.1
  have hsgξ : zSg (zRw V) n1ξ nsξ := by rw [hRzξ]; exact hsgξ
  have hnsξ : V 3 (2000 + 2) = (nsξ : Int) := hsgξ.2.1
  have hV9ξ : ∀ o k, zNs o k → (zp_set M 0 0 0) o k = V o k := by
    rw [hVdξ]
    exact (zV_set hVξ)
  have loopt : ∀ (r9ξ t9ξ : Nat) (M : Nat → Nat → Int) (G : Nat → Nat → Int), r9ξ + t9ξ = 13 → zM A zYr zFr M u.1 G → (∀ o k, zNs o k → M o k = V o k) → zSb M → zp_J p l e R s m args below meth c Q w u [] 9 [(2, 0, (t9ξ : Int)), (1, 0, (zq_fi (fun t => zq_so (zRw V) n1ξ npξ Lwξ (t : Int) nsξ) t9ξ)), (0, 2, (A 0 : Int))] [] u.1 G := by
    clear hV9ξ
    intro r9ξ
    induction r9ξ with
    | zero =>
      intro t9ξ M G hrξ hMξ hVξ hSbξ
      obtain rfl : t9ξ = 13 := by omega
      have hfbξ := zq_fib (so := fun t => zq_so (zRw V) n1ξ npξ Lwξ (t : Int) nsξ) (t := 13)
      show zp_J p l e R s m args below meth c Q w u [] 9 [(2, 0, 13), (1, 0, (zq_fi (fun t => zq_so (zRw V) n1ξ npξ Lwξ (t : Int) nsξ) 13)), (0, 2, (A 0 : Int))] [] u.1 G
      refine zp_load (pc := 9) hx hb (zd_X12_fits (9, .iload_n 2, 1, 0, []) (List.mem_of_getElem? (i := 7) rfl)) rfl (j := 0) rfl ?_
      refine zp_const (pc := 10) hx hb (zd_X12_fits (10, .bipush 12, 2, 0, []) (List.mem_of_getElem? (i := 8) rfl)) rfl rfl ?_
      refine zp_icmp (pc := 12) (tgt := 119) hx hb (zd_X12_fits (12, .if_icmp .gt 107, 3, 0, []) (List.mem_of_getElem? (i := 9) rfl)) rfl (fun (hc577ξ : 12 < (13 : Int)) => ?_) (fun (hc577ξ : ¬ (12 < (13 : Int))) => ?_)
      · refine zp_load (pc := 119) hx hb (zd_X12_fits (119, .iload_n 1, 1, 0, []) (List.mem_of_getElem? (i := 72) rfl)) rfl (j := 1) rfl ?_
        refine zp_iret (pc := 120) (n := (zq_fi (fun t => zq_so (zRw V) n1ξ npξ Lwξ (t : Int) nsξ) 13)) hx hb hEξ hQξ hU5ξ rfl (by decide) (zd_X12_fits (120, .ireturn, 1, 0, []) (List.mem_of_getElem? (i := 73) rfl)) (j := 0) rfl (zp_o0 (by omega) (by omega) (by omega) (by omega)) ?_
        rw [hpsξ]
        refine ⟨rfl, ?_⟩
        rw [← hVdξ, ← hRzξ]
        exact ⟨⟨M, hMξ, hVξ, hSbξ⟩, rfl⟩
      · exfalso
        omega
    | succ r9ξ ih =>
      intro t9ξ M G hrξ hMξ hVξ hSbξ
      have hfbξ := zq_fib (so := fun t => zq_so (zRw V) n1ξ npξ Lwξ (t : Int) nsξ) (t := t9ξ)
      refine zp_load (pc := 9) hx hb (zd_X12_fits (9, .iload_n 2, 1, 0, []) (List.mem_of_getElem? (i := 7) rfl)) rfl (j := 0) rfl ?_
      refine zp_const (pc := 10) hx hb (zd_X12_fits (10, .bipush 12, 2, 0, []) (List.mem_of_getElem? (i := 8) rfl)) rfl rfl ?_
      refine zp_icmp (pc := 12) (tgt := 119) hx hb (zd_X12_fits (12, .if_icmp .gt 107, 3, 0, []) (List.mem_of_getElem? (i := 9) rfl)) rfl (fun (hc578ξ : 12 < (t9ξ : Int)) => ?_) (fun (hc578ξ : ¬ (12 < (t9ξ : Int))) => ?_)
      · exfalso
        omega
      · refine zp_load (pc := 15) hx hb (zd_X12_fits (15, .aload_n 0, 1, 0, []) (List.mem_of_getElem? (i := 10) rfl)) rfl (j := 2) rfl ?_
        refine zp_load (pc := 16) hx hb (zd_X12_fits (16, .iload_n 2, 1, 0, []) (List.mem_of_getElem? (i := 11) rfl)) rfl (j := 0) rfl ?_
        have hVyξ : ∀ o k, zNs o k → M o k = V o k := hVξ
        have h47yξ : V 0 47 = -1 := (Eq.trans rfl h47ξ)
        have hLyξ : zLV V Lwξ := hLVξ
        refine zp_call (pc := 17) (how := 0) (idx := 457) (mi := 248) (S := []) hx hb hEξ hwξ heffξ hrmξ (zX_lay hWξ A M n1ξ npξ (zRw V) Lwξ) rfl (j := 47) rfl rfl (by decide +kernel) (zd_X12_fits (17, .invokevirtual 457, 3, 0, []) (List.mem_of_getElem? (i := 12) rfl)) [(A 0 : Int), (t9ξ : Int)] rfl ⟨zp_o2 (zM_P hMξ (List.mem_of_getElem? (i := 0) rfl)), zp_o0 (by omega) (by omega) (by omega) (by omega), trivial⟩ (Nat.le_of_ble_eq_true rfl) ⟨hMξ, rfl, (hVyξ 0 47 (Or.inr (by decide))).trans h47yξ, (hVyξ 0 20 (Or.inr (by decide))).trans hLyξ.2.2.2.2, hDkξ, fun j => (hVyξ 3 _ (Or.inl (by decide))).trans (rfl), hLVξ.1, hLVξ.2.1, hLVξ.2.2.1, hSbξ, (show (0 : Int) ≤ (t9ξ : Int) by omega), (show ((t9ξ : Int) : Int) ≤ 12 by omega)⟩ (fun al halξ rnl Pl Gl hextlξ hfrlξ hoklξ hcslξ hpsilξ => ?_)
        obtain rfl := List.mem_singleton.mp halξ
        obtain ⟨hPelξ, Ml, hMlξ, htlξ⟩ := hpsilξ
        subst hPelξ
        obtain ⟨hNlξ, hSlξ, hDlξ, hxlξ⟩ := htlξ
        have hVlξ : ∀ o k, zNs o k → Ml o k = V o k := fun o k hkξ => (hNlξ o k hkξ).trans (hVyξ o k hkξ)
        have hRlξ : ∀ j, j < 5580 → -2147483648 ≤ Ml 3 (2000 + j) ∧ Ml 3 (2000 + j) ≤ 2147483647 := fun j hjξ => by rw [hVlξ 3 _ (Or.inl (by decide))]; exact hRξ j hjξ
        refine zp_const (pc := 20) hx hb (zd_X12_fits (20, .iconst 1, 1, 0, []) (List.mem_of_getElem? (i := 13) rfl)) rfl rfl ?_
        refine zp_store (L' := [(3, 0, 1), (2, 0, (t9ξ : Int)), (1, 0, (zq_fi (fun t => zq_so (zRw V) n1ξ npξ Lwξ (t : Int) nsξ) t9ξ)), (0, 2, (A 0 : Int))]) (pc := 21) hx hb hnLξ (zd_X12_fits (21, .istore_n 3, 1, 0, []) (List.mem_of_getElem? (i := 14) rfl)) rfl rfl rfl ?_
        refine zp_const (pc := 22) hx hb (zd_X12_fits (22, .iconst 0, 1, 0, []) (List.mem_of_getElem? (i := 15) rfl)) rfl rfl ?_
        refine zp_store (L' := [(4, 0, 0), (3, 0, 1), (2, 0, (t9ξ : Int)), (1, 0, (zq_fi (fun t => zq_so (zRw V) n1ξ npξ Lwξ (t : Int) nsξ) t9ξ)), (0, 2, (A 0 : Int))]) (pc := 23) hx hb hnLξ (zd_X12_fits (23, .istore 4, 2, 0, []) (List.mem_of_getElem? (i := 16) rfl)) rfl rfl rfl ?_
        have loopi : ∀ (q9ξ i9ξ : Nat) (s9ξ : Int), q9ξ + i9ξ = nsξ → 0 ≤ s9ξ → s9ξ ≤ 1 → (s9ξ = 1 ↔ zq_so (zRw V) n1ξ npξ Lwξ (t9ξ : Int) i9ξ = true) → zp_J p l e R s m args below meth c Q w u [] 25 [(4, 0, (i9ξ : Int)), (3, 0, s9ξ), (2, 0, (t9ξ : Int)), (1, 0, (zq_fi (fun t => zq_so (zRw V) n1ξ npξ Lwξ (t : Int) nsξ) t9ξ)), (0, 2, (A 0 : Int))] [] u.1 Gl := by
          intro q9ξ
          induction q9ξ with
          | zero =>
            intro i9ξ s9ξ hqξ hs0ξ hs1ξ hsoξ
            have heiξ : i9ξ = nsξ := by omega
            rw [heiξ] at hsoξ
            refine zp_load (pc := 25) hx hb (zd_X12_fits (25, .iload 4, 2, 0, []) (List.mem_of_getElem? (i := 17) rfl)) rfl (j := 0) rfl ?_
            refine zp_load (pc := 27) hx hb (zd_X12_fits (27, .aload_n 0, 1, 0, []) (List.mem_of_getElem? (i := 18) rfl)) rfl (j := 4) rfl ?_
            refine zp_getf (n := (A 3 : Int)) (pc := 28) hx hb hEξ hwξ (zd_X12_fits (28, .getfield 13, 3, 0, []) (List.mem_of_getElem? (i := 19) rfl)) (j := 21) rfl rfl rfl (zM_P hMlξ (List.mem_of_getElem? (i := 0) rfl)) ((zM_G hMlξ (List.mem_of_getElem? (i := 0) rfl) 3).trans (zM_F hMlξ (List.mem_of_getElem? (i := 1) rfl))) ?_
            refine zp_const (pc := 31) hx hb (zd_X12_fits (31, .iconst 2, 1, 0, []) (List.mem_of_getElem? (i := 20) rfl)) rfl rfl ?_
            refine zp_ialdT (j := 2) (v := (nsξ : Int)) (pc := 32) hx hb hwξ (zd_X12_fits (32, .iaload, 1, 0, []) (List.mem_of_getElem? (i := 21) rfl)) zl_T59 rfl (zl_kd 2) (zM_P hMlξ (List.mem_of_getElem? (i := 2) rfl)) (by omega) (show 2 < 5580 by omega) (((zM_G hMlξ (List.mem_of_getElem? (i := 2) rfl) (2000 + 2)).trans (hVlξ 3 (2000 + 2) (Or.inl (by decide)))).trans hnsξ) (fun _ => ?_)
            refine zp_icmp (pc := 33) (tgt := 99) hx hb (zd_X12_fits (33, .if_icmp .ge 66, 3, 0, []) (List.mem_of_getElem? (i := 22) rfl)) rfl (fun (hc580ξ : (nsξ : Int) ≤ (i9ξ : Int)) => ?_) (fun (hc580ξ : ¬ ((nsξ : Int) ≤ (i9ξ : Int))) => ?_)
            · refine zp_load (pc := 99) hx hb (zd_X12_fits (99, .iload_n 1, 1, 0, []) (List.mem_of_getElem? (i := 60) rfl)) rfl (j := 3) rfl ?_
              refine zp_load (pc := 100) hx hb (zd_X12_fits (100, .iload_n 3, 1, 0, []) (List.mem_of_getElem? (i := 61) rfl)) rfl (j := 1) rfl ?_
              refine zp_if (pc := 101) (tgt := 110) hx hb (zd_X12_fits (101, .ifCond .eq 9, 3, 0, []) (List.mem_of_getElem? (i := 62) rfl)) rfl (fun (hc581ξ : s9ξ = 0) => ?_) (fun (hc581ξ : ¬ (s9ξ = 0)) => ?_)
              · refine zp_const (pc := 110) hx hb (zd_X12_fits (110, .iconst 0, 1, 0, []) (List.mem_of_getElem? (i := 67) rfl)) rfl rfl ?_
                refine zp_binx (o := 4) (n := (zw_or (zq_fi (fun t => zq_so (zRw V) n1ξ npξ Lwξ (t : Int) nsξ) t9ξ) 0)) (pc := 111) hx hb (zd_X12_fits (111, .ior, 1, 0, []) (List.mem_of_getElem? (i := 68) rfl)) rfl (by decide) rfl ?_
                have hw582ξ := zw_orb (zq_fi (fun t => zq_so (zRw V) n1ξ npξ Lwξ (t : Int) nsξ) t9ξ) 0
                refine zp_store (L' := [(1, 0, (zw_or (zq_fi (fun t => zq_so (zRw V) n1ξ npξ Lwξ (t : Int) nsξ) t9ξ) 0)), (4, 0, (i9ξ : Int)), (3, 0, s9ξ), (2, 0, (t9ξ : Int)), (0, 2, (A 0 : Int))]) (pc := 112) hx hb hnLξ (zd_X12_fits (112, .istore_n 1, 1, 0, []) (List.mem_of_getElem? (i := 69) rfl)) rfl rfl rfl ?_
                refine zp_iinc (L' := [(2, 0, ((t9ξ : Int) + 1)), (1, 0, (zw_or (zq_fi (fun t => zq_so (zRw V) n1ξ npξ Lwξ (t : Int) nsξ) t9ξ) 0)), (4, 0, (i9ξ : Int)), (3, 0, s9ξ), (0, 2, (A 0 : Int))]) (n := ((t9ξ : Int) + 1)) (pc := 113) hx hb hnLξ (zd_X12_fits (113, .iinc 2 1, 3, 0, []) (List.mem_of_getElem? (i := 70) rfl)) (j := 3) rfl (by omega) (zp_r0 (by omega) (by omega)) rfl rfl ?_
                refine zp_goto (tgt := 9) (pc := 116) hx hb (zd_X12_fits (116, .goto (-107), 3, 0, []) (List.mem_of_getElem? (i := 71) rfl)) rfl ?_
                have hbbξ : (zw_or (zq_fi (fun t => zq_so (zRw V) n1ξ npξ Lwξ (t : Int) nsξ) t9ξ) 0) = (zq_fi (fun t => zq_so (zRw V) n1ξ npξ Lwξ (t : Int) nsξ) (t9ξ + 1)) := by
                  rw [zq_fi]
                  rw [zw_or0 zq_fib, if_neg (fun h9ξ => by have h8ξ := (Iff.mpr hsoξ) h9ξ; omega)]
                rw [hbbξ]
                refine zp_drop (L' := [(2, 0, ((t9ξ : Int) + 1)), (1, 0, (zq_fi (fun t => zq_so (zRw V) n1ξ npξ Lwξ (t : Int) nsξ) (t9ξ + 1))), (0, 2, (A 0 : Int))]) (by simp) ?_
                exact ih (t9ξ + 1) Ml Gl (by omega) hMlξ hVlξ hSlξ
              · refine zp_const (pc := 104) hx hb (zd_X12_fits (104, .iconst 1, 1, 0, []) (List.mem_of_getElem? (i := 63) rfl)) rfl rfl ?_
                refine zp_load (pc := 105) hx hb (zd_X12_fits (105, .iload_n 2, 1, 0, []) (List.mem_of_getElem? (i := 64) rfl)) rfl (j := 2) rfl ?_
                refine zp_binx (o := 6) (n := (zw_shl 1 (t9ξ : Int))) (pc := 106) hx hb (zd_X12_fits (106, .ishl, 1, 0, []) (List.mem_of_getElem? (i := 65) rfl)) rfl (by decide) rfl ?_
                have hw583ξ := zw_shlb 1 (t9ξ : Int)
                refine zp_goto (tgt := 111) (pc := 107) hx hb (zd_X12_fits (107, .goto 4, 3, 0, []) (List.mem_of_getElem? (i := 66) rfl)) rfl ?_
                refine zp_binx (o := 4) (n := (zw_or (zq_fi (fun t => zq_so (zRw V) n1ξ npξ Lwξ (t : Int) nsξ) t9ξ) (zw_shl 1 (t9ξ : Int)))) (pc := 111) hx hb (zd_X12_fits (111, .ior, 1, 0, []) (List.mem_of_getElem? (i := 68) rfl)) rfl (by decide) rfl ?_
                have hw584ξ := zw_orb (zq_fi (fun t => zq_so (zRw V) n1ξ npξ Lwξ (t : Int) nsξ) t9ξ) (zw_shl 1 (t9ξ : Int))
                refine zp_store (L' := [(1, 0, (zw_or (zq_fi (fun t => zq_so (zRw V) n1ξ npξ Lwξ (t : Int) nsξ) t9ξ) (zw_shl 1 (t9ξ : Int)))), (4, 0, (i9ξ : Int)), (3, 0, s9ξ), (2, 0, (t9ξ : Int)), (0, 2, (A 0 : Int))]) (pc := 112) hx hb hnLξ (zd_X12_fits (112, .istore_n 1, 1, 0, []) (List.mem_of_getElem? (i := 69) rfl)) rfl rfl rfl ?_
                refine zp_iinc (L' := [(2, 0, ((t9ξ : Int) + 1)), (1, 0, (zw_or (zq_fi (fun t => zq_so (zRw V) n1ξ npξ Lwξ (t : Int) nsξ) t9ξ) (zw_shl 1 (t9ξ : Int)))), (4, 0, (i9ξ : Int)), (3, 0, s9ξ), (0, 2, (A 0 : Int))]) (n := ((t9ξ : Int) + 1)) (pc := 113) hx hb hnLξ (zd_X12_fits (113, .iinc 2 1, 3, 0, []) (List.mem_of_getElem? (i := 70) rfl)) (j := 3) rfl (by omega) (zp_r0 (by omega) (by omega)) rfl rfl ?_
                refine zp_goto (tgt := 9) (pc := 116) hx hb (zd_X12_fits (116, .goto (-107), 3, 0, []) (List.mem_of_getElem? (i := 71) rfl)) rfl ?_
                have hbbξ : (zw_or (zq_fi (fun t => zq_so (zRw V) n1ξ npξ Lwξ (t : Int) nsξ) t9ξ) (zw_shl 1 (t9ξ : Int))) = (zq_fi (fun t => zq_so (zRw V) n1ξ npξ Lwξ (t : Int) nsξ) (t9ξ + 1)) := by
                  rw [zq_fi]
                  rw [if_pos ((Iff.mp hsoξ) (by omega))]
                rw [hbbξ]
                refine zp_drop (L' := [(2, 0, ((t9ξ : Int) + 1)), (1, 0, (zq_fi (fun t => zq_so (zRw V) n1ξ npξ Lwξ (t : Int) nsξ) (t9ξ + 1))), (0, 2, (A 0 : Int))]) (by simp) ?_
                exact ih (t9ξ + 1) Ml Gl (by omega) hMlξ hVlξ hSlξ
            · exfalso
              omega
          | succ q9ξ ihi =>
            intro i9ξ s9ξ hqξ hs0ξ hs1ξ hsoξ
            have hs9ξ := hsgξ.2.2 i9ξ (by omega)
            have hs9ξ : (0 ≤ (V 3 (2000 + (3 * i9ξ + 153))) ∧ (V 3 (2000 + (3 * i9ξ + 153))) < (n1ξ : Int)) ∧ 0 ≤ (V 3 (2000 + (3 * i9ξ + 154))) ∧ (V 3 (2000 + (3 * i9ξ + 154))) ≤ 23 := hs9ξ
            have hrvξ := hRξ (3 * i9ξ + 155) (by omega)
            refine zp_load (pc := 25) hx hb (zd_X12_fits (25, .iload 4, 2, 0, []) (List.mem_of_getElem? (i := 17) rfl)) rfl (j := 0) rfl ?_
            refine zp_load (pc := 27) hx hb (zd_X12_fits (27, .aload_n 0, 1, 0, []) (List.mem_of_getElem? (i := 18) rfl)) rfl (j := 4) rfl ?_
            refine zp_getf (n := (A 3 : Int)) (pc := 28) hx hb hEξ hwξ (zd_X12_fits (28, .getfield 13, 3, 0, []) (List.mem_of_getElem? (i := 19) rfl)) (j := 21) rfl rfl rfl (zM_P hMlξ (List.mem_of_getElem? (i := 0) rfl)) ((zM_G hMlξ (List.mem_of_getElem? (i := 0) rfl) 3).trans (zM_F hMlξ (List.mem_of_getElem? (i := 1) rfl))) ?_
            refine zp_const (pc := 31) hx hb (zd_X12_fits (31, .iconst 2, 1, 0, []) (List.mem_of_getElem? (i := 20) rfl)) rfl rfl ?_
            refine zp_ialdT (j := 2) (v := (nsξ : Int)) (pc := 32) hx hb hwξ (zd_X12_fits (32, .iaload, 1, 0, []) (List.mem_of_getElem? (i := 21) rfl)) zl_T59 rfl (zl_kd 2) (zM_P hMlξ (List.mem_of_getElem? (i := 2) rfl)) (by omega) (show 2 < 5580 by omega) (((zM_G hMlξ (List.mem_of_getElem? (i := 2) rfl) (2000 + 2)).trans (hVlξ 3 (2000 + 2) (Or.inl (by decide)))).trans hnsξ) (fun _ => ?_)
            refine zp_icmp (pc := 33) (tgt := 99) hx hb (zd_X12_fits (33, .if_icmp .ge 66, 3, 0, []) (List.mem_of_getElem? (i := 22) rfl)) rfl (fun (hc586ξ : (nsξ : Int) ≤ (i9ξ : Int)) => ?_) (fun (hc586ξ : ¬ ((nsξ : Int) ≤ (i9ξ : Int))) => ?_)
            · exfalso
              omega
            · refine zp_const (pc := 36) hx hb (zd_X12_fits (36, .sipush 153, 3, 0, []) (List.mem_of_getElem? (i := 23) rfl)) rfl rfl ?_
              refine zp_const (pc := 39) hx hb (zd_X12_fits (39, .iconst 3, 1, 0, []) (List.mem_of_getElem? (i := 24) rfl)) rfl rfl ?_
              refine zp_load (pc := 40) hx hb (zd_X12_fits (40, .iload 4, 2, 0, []) (List.mem_of_getElem? (i := 25) rfl)) rfl (j := 0) rfl ?_
              refine zp_mul (n := (3 * (i9ξ : Int))) (pc := 42) hx hb (zd_X12_fits (42, .imul, 1, 0, []) (List.mem_of_getElem? (i := 26) rfl)) (by omega) (zp_r0 (by omega) (by omega)) ?_
              refine zp_add (n := (3 * (i9ξ : Int) + 153)) (pc := 43) hx hb (zd_X12_fits (43, .iadd, 1, 0, []) (List.mem_of_getElem? (i := 27) rfl)) (by omega) (zp_r0 (by omega) (by omega)) ?_
              refine zp_store (L' := [(5, 0, (3 * (i9ξ : Int) + 153)), (4, 0, (i9ξ : Int)), (3, 0, s9ξ), (2, 0, (t9ξ : Int)), (1, 0, (zq_fi (fun t => zq_so (zRw V) n1ξ npξ Lwξ (t : Int) nsξ) t9ξ)), (0, 2, (A 0 : Int))]) (pc := 44) hx hb hnLξ (zd_X12_fits (44, .istore 5, 2, 0, []) (List.mem_of_getElem? (i := 28) rfl)) rfl rfl rfl ?_
              refine zp_load (pc := 46) hx hb (zd_X12_fits (46, .iload_n 3, 1, 0, []) (List.mem_of_getElem? (i := 29) rfl)) rfl (j := 2) rfl ?_
              refine zp_if (pc := 47) (tgt := 91) hx hb (zd_X12_fits (47, .ifCond .eq 44, 3, 0, []) (List.mem_of_getElem? (i := 30) rfl)) rfl (fun (hc587ξ : s9ξ = 0) => ?_) (fun (hc587ξ : ¬ (s9ξ = 0)) => ?_)
              · refine zp_const (pc := 91) hx hb (zd_X12_fits (91, .iconst 0, 1, 0, []) (List.mem_of_getElem? (i := 56) rfl)) rfl rfl ?_
                refine zp_store (L' := [(3, 0, 0), (5, 0, (3 * (i9ξ : Int) + 153)), (4, 0, (i9ξ : Int)), (2, 0, (t9ξ : Int)), (1, 0, (zq_fi (fun t => zq_so (zRw V) n1ξ npξ Lwξ (t : Int) nsξ) t9ξ)), (0, 2, (A 0 : Int))]) (pc := 92) hx hb hnLξ (zd_X12_fits (92, .istore_n 3, 1, 0, []) (List.mem_of_getElem? (i := 57) rfl)) rfl rfl rfl ?_
                refine zp_iinc (L' := [(4, 0, ((i9ξ : Int) + 1)), (3, 0, 0), (5, 0, (3 * (i9ξ : Int) + 153)), (2, 0, (t9ξ : Int)), (1, 0, (zq_fi (fun t => zq_so (zRw V) n1ξ npξ Lwξ (t : Int) nsξ) t9ξ)), (0, 2, (A 0 : Int))]) (n := ((i9ξ : Int) + 1)) (pc := 93) hx hb hnLξ (zd_X12_fits (93, .iinc 4 1, 3, 0, []) (List.mem_of_getElem? (i := 58) rfl)) (j := 2) rfl (by omega) (zp_r0 (by omega) (by omega)) rfl rfl ?_
                refine zp_goto (tgt := 25) (pc := 96) hx hb (zd_X12_fits (96, .goto (-71), 3, 0, []) (List.mem_of_getElem? (i := 59) rfl)) rfl ?_
                have hso1ξ : (0 : Int) = 1 ↔ zq_so (zRw V) n1ξ npξ Lwξ (t9ξ : Int) (i9ξ + 1) = true := by
                  rw [zq_so, Bool.and_eq_true]
                  refine ⟨fun h9ξ => absurd h9ξ (by decide), fun h9ξ => ?_⟩
                  exfalso
                  have h8ξ := (Iff.mpr hsoξ) h9ξ.1
                  have h7ξ : ((zd_hr (zRw V) n1ξ npξ (zd_sp (zRw V) Lwξ (t9ξ : Int)) (zd_ru (zRw V) Lwξ (t9ξ : Int)) (t9ξ : Int) ((V 3 (2000 + (3 * i9ξ + 154))).toNat + 1)).1 (V 3 (2000 + (3 * i9ξ + 153))).toNat) = (V 3 (2000 + (3 * i9ξ + 155))) := of_decide_eq_true h9ξ.2
                  omega
                refine zp_drop (L' := [(4, 0, ((i9ξ : Int) + 1)), (3, 0, 0), (2, 0, (t9ξ : Int)), (1, 0, (zq_fi (fun t => zq_so (zRw V) n1ξ npξ Lwξ (t : Int) nsξ) t9ξ)), (0, 2, (A 0 : Int))]) (by simp) ?_
                exact ihi (i9ξ + 1) 0 (by omega) (by omega) (by omega) hso1ξ
              · refine zp_load (pc := 50) hx hb (zd_X12_fits (50, .aload_n 0, 1, 0, []) (List.mem_of_getElem? (i := 31) rfl)) rfl (j := 5) rfl ?_
                refine zp_getf (n := (A 43 : Int)) (pc := 51) hx hb hEξ hwξ (zd_X12_fits (51, .getfield 116, 3, 0, []) (List.mem_of_getElem? (i := 32) rfl)) (j := 61) rfl rfl rfl (zM_P hMlξ (List.mem_of_getElem? (i := 0) rfl)) ((zM_G hMlξ (List.mem_of_getElem? (i := 0) rfl) 43).trans (zM_F hMlξ (List.mem_of_getElem? (i := 22) rfl))) ?_
                refine zp_const (pc := 54) hx hb (zd_X12_fits (54, .bipush 10, 2, 0, []) (List.mem_of_getElem? (i := 33) rfl)) rfl rfl ?_
                refine zp_load (pc := 56) hx hb (zd_X12_fits (56, .aload_n 0, 1, 0, []) (List.mem_of_getElem? (i := 34) rfl)) rfl (j := 5) rfl ?_
                refine zp_getf (n := (A 3 : Int)) (pc := 57) hx hb hEξ hwξ (zd_X12_fits (57, .getfield 13, 3, 0, []) (List.mem_of_getElem? (i := 35) rfl)) (j := 21) rfl rfl rfl (zM_P hMlξ (List.mem_of_getElem? (i := 0) rfl)) ((zM_G hMlξ (List.mem_of_getElem? (i := 0) rfl) 3).trans (zM_F hMlξ (List.mem_of_getElem? (i := 1) rfl))) ?_
                refine zp_load (pc := 60) hx hb (zd_X12_fits (60, .iload 5, 2, 0, []) (List.mem_of_getElem? (i := 36) rfl)) rfl (j := 0) rfl ?_
                refine zp_const (pc := 62) hx hb (zd_X12_fits (62, .iconst 1, 1, 0, []) (List.mem_of_getElem? (i := 37) rfl)) rfl rfl ?_
                refine zp_add (n := (3 * (i9ξ : Int) + 154)) (pc := 63) hx hb (zd_X12_fits (63, .iadd, 1, 0, []) (List.mem_of_getElem? (i := 38) rfl)) (by omega) (zp_r0 (by omega) (by omega)) ?_
                refine zp_ialdT (j := (3 * i9ξ + 154)) (v := (V 3 (2000 + (3 * i9ξ + 154)))) (pc := 64) hx hb hwξ (zd_X12_fits (64, .iaload, 1, 0, []) (List.mem_of_getElem? (i := 39) rfl)) zl_T59 rfl (zl_kd ((3 * i9ξ + 154))) (zM_P hMlξ (List.mem_of_getElem? (i := 2) rfl)) (by omega) (show (3 * i9ξ + 154) < 5580 by omega) ((zM_G hMlξ (List.mem_of_getElem? (i := 2) rfl) (2000 + (3 * i9ξ + 154))).trans (hVlξ 3 (2000 + (3 * i9ξ + 154)) (Or.inl (by decide)))) (fun _ => ?_)
                refine zp_mul (n := (10 * (V 3 (2000 + (3 * i9ξ + 154))))) (pc := 65) hx hb (zd_X12_fits (65, .imul, 1, 0, []) (List.mem_of_getElem? (i := 40) rfl)) (by omega) (zp_r0 (by omega) (by omega)) ?_
                refine zp_load (pc := 66) hx hb (zd_X12_fits (66, .aload_n 0, 1, 0, []) (List.mem_of_getElem? (i := 41) rfl)) rfl (j := 5) rfl ?_
                refine zp_getf (n := (A 3 : Int)) (pc := 67) hx hb hEξ hwξ (zd_X12_fits (67, .getfield 13, 3, 0, []) (List.mem_of_getElem? (i := 42) rfl)) (j := 21) rfl rfl rfl (zM_P hMlξ (List.mem_of_getElem? (i := 0) rfl)) ((zM_G hMlξ (List.mem_of_getElem? (i := 0) rfl) 3).trans (zM_F hMlξ (List.mem_of_getElem? (i := 1) rfl))) ?_
                refine zp_load (pc := 70) hx hb (zd_X12_fits (70, .iload 5, 2, 0, []) (List.mem_of_getElem? (i := 43) rfl)) rfl (j := 0) rfl ?_
                refine zp_ialdT (j := (3 * i9ξ + 153)) (v := (V 3 (2000 + (3 * i9ξ + 153)))) (pc := 72) hx hb hwξ (zd_X12_fits (72, .iaload, 1, 0, []) (List.mem_of_getElem? (i := 44) rfl)) zl_T59 rfl (zl_kd ((3 * i9ξ + 153))) (zM_P hMlξ (List.mem_of_getElem? (i := 2) rfl)) (by omega) (show (3 * i9ξ + 153) < 5580 by omega) ((zM_G hMlξ (List.mem_of_getElem? (i := 2) rfl) (2000 + (3 * i9ξ + 153))).trans (hVlξ 3 (2000 + (3 * i9ξ + 153)) (Or.inl (by decide)))) (fun _ => ?_)
                refine zp_add (n := ((10 * (V 3 (2000 + (3 * i9ξ + 154)))) + (V 3 (2000 + (3 * i9ξ + 153))))) (pc := 73) hx hb (zd_X12_fits (73, .iadd, 1, 0, []) (List.mem_of_getElem? (i := 45) rfl)) (by omega) (zp_r0 (by omega) (by omega)) ?_
                refine zp_iald (j := (((10 * (V 3 (2000 + (3 * i9ξ + 154)))) + (V 3 (2000 + (3 * i9ξ + 153))))).toNat) (v := ((zd_hr (zRw V) n1ξ npξ (zd_sp (zRw V) Lwξ (t9ξ : Int)) (zd_ru (zRw V) Lwξ (t9ξ : Int)) (t9ξ : Int) ((V 3 (2000 + (3 * i9ξ + 154))).toNat + 1)).1 (V 3 (2000 + (3 * i9ξ + 153))).toNat)) (pc := 74) hx hb hwξ (zd_X12_fits (74, .iaload, 1, 0, []) (List.mem_of_getElem? (i := 46) rfl)) (show zp_ia 1 80 = some (240, 0, 0, (-2147483648), 2147483647) from rfl) (zM_P hMlξ (List.mem_of_getElem? (i := 23) rfl)) (by omega) (by omega) ((zM_G hMlξ (List.mem_of_getElem? (i := 23) rfl) (2000 + (((10 * (V 3 (2000 + (3 * i9ξ + 154)))) + (V 3 (2000 + (3 * i9ξ + 153))))).toNat)).trans (Eq.trans (congrArg (fun z => Ml 43 (2000 + z)) (show (((10 * (V 3 (2000 + (3 * i9ξ + 154)))) + (V 3 (2000 + (3 * i9ξ + 153))))).toNat = 10 * (V 3 (2000 + (3 * i9ξ + 154))).toNat + (V 3 (2000 + (3 * i9ξ + 153))).toNat by omega)) (hDlξ.2.2 (V 3 (2000 + (3 * i9ξ + 154))).toNat (V 3 (2000 + (3 * i9ξ + 153))).toNat (by omega) (by omega)))) (fun hk590ξ => ?_)
                have hk590bξ := zp_int hk590ξ
                clear hk590ξ
                refine zp_load (pc := 75) hx hb (zd_X12_fits (75, .aload_n 0, 1, 0, []) (List.mem_of_getElem? (i := 47) rfl)) rfl (j := 5) rfl ?_
                refine zp_getf (n := (A 3 : Int)) (pc := 76) hx hb hEξ hwξ (zd_X12_fits (76, .getfield 13, 3, 0, []) (List.mem_of_getElem? (i := 48) rfl)) (j := 21) rfl rfl rfl (zM_P hMlξ (List.mem_of_getElem? (i := 0) rfl)) ((zM_G hMlξ (List.mem_of_getElem? (i := 0) rfl) 3).trans (zM_F hMlξ (List.mem_of_getElem? (i := 1) rfl))) ?_
                refine zp_load (pc := 79) hx hb (zd_X12_fits (79, .iload 5, 2, 0, []) (List.mem_of_getElem? (i := 49) rfl)) rfl (j := 0) rfl ?_
                refine zp_const (pc := 81) hx hb (zd_X12_fits (81, .iconst 2, 1, 0, []) (List.mem_of_getElem? (i := 50) rfl)) rfl rfl ?_
                refine zp_add (n := (3 * (i9ξ : Int) + 155)) (pc := 82) hx hb (zd_X12_fits (82, .iadd, 1, 0, []) (List.mem_of_getElem? (i := 51) rfl)) (by omega) (zp_r0 (by omega) (by omega)) ?_
                refine zp_ialdT (j := (3 * i9ξ + 155)) (v := (V 3 (2000 + (3 * i9ξ + 155)))) (pc := 83) hx hb hwξ (zd_X12_fits (83, .iaload, 1, 0, []) (List.mem_of_getElem? (i := 52) rfl)) zl_T59 rfl (zl_kd ((3 * i9ξ + 155))) (zM_P hMlξ (List.mem_of_getElem? (i := 2) rfl)) (by omega) (show (3 * i9ξ + 155) < 5580 by omega) ((zM_G hMlξ (List.mem_of_getElem? (i := 2) rfl) (2000 + (3 * i9ξ + 155))).trans (hVlξ 3 (2000 + (3 * i9ξ + 155)) (Or.inl (by decide)))) (fun _ => ?_)
                refine zp_icmp (pc := 84) (tgt := 91) hx hb (zd_X12_fits (84, .if_icmp .ne 7, 3, 0, []) (List.mem_of_getElem? (i := 53) rfl)) rfl (fun (hc592ξ : ¬ ((zd_hr (zRw V) n1ξ npξ (zd_sp (zRw V) Lwξ (t9ξ : Int)) (zd_ru (zRw V) Lwξ (t9ξ : Int)) (t9ξ : Int) ((V 3 (2000 + (3 * i9ξ + 154))).toNat + 1)).1 (V 3 (2000 + (3 * i9ξ + 153))).toNat) = (V 3 (2000 + (3 * i9ξ + 155)))) => ?_) (fun (hc592ξ : ¬ (¬ ((zd_hr (zRw V) n1ξ npξ (zd_sp (zRw V) Lwξ (t9ξ : Int)) (zd_ru (zRw V) Lwξ (t9ξ : Int)) (t9ξ : Int) ((V 3 (2000 + (3 * i9ξ + 154))).toNat + 1)).1 (V 3 (2000 + (3 * i9ξ + 153))).toNat) = (V 3 (2000 + (3 * i9ξ + 155))))) => ?_)
                · refine zp_const (pc := 91) hx hb (zd_X12_fits (91, .iconst 0, 1, 0, []) (List.mem_of_getElem? (i := 56) rfl)) rfl rfl ?_
                  refine zp_store (L' := [(3, 0, 0), (5, 0, (3 * (i9ξ : Int) + 153)), (4, 0, (i9ξ : Int)), (2, 0, (t9ξ : Int)), (1, 0, (zq_fi (fun t => zq_so (zRw V) n1ξ npξ Lwξ (t : Int) nsξ) t9ξ)), (0, 2, (A 0 : Int))]) (pc := 92) hx hb hnLξ (zd_X12_fits (92, .istore_n 3, 1, 0, []) (List.mem_of_getElem? (i := 57) rfl)) rfl rfl rfl ?_
                  refine zp_iinc (L' := [(4, 0, ((i9ξ : Int) + 1)), (3, 0, 0), (5, 0, (3 * (i9ξ : Int) + 153)), (2, 0, (t9ξ : Int)), (1, 0, (zq_fi (fun t => zq_so (zRw V) n1ξ npξ Lwξ (t : Int) nsξ) t9ξ)), (0, 2, (A 0 : Int))]) (n := ((i9ξ : Int) + 1)) (pc := 93) hx hb hnLξ (zd_X12_fits (93, .iinc 4 1, 3, 0, []) (List.mem_of_getElem? (i := 58) rfl)) (j := 2) rfl (by omega) (zp_r0 (by omega) (by omega)) rfl rfl ?_
                  refine zp_goto (tgt := 25) (pc := 96) hx hb (zd_X12_fits (96, .goto (-71), 3, 0, []) (List.mem_of_getElem? (i := 59) rfl)) rfl ?_
                  have hso1ξ : (0 : Int) = 1 ↔ zq_so (zRw V) n1ξ npξ Lwξ (t9ξ : Int) (i9ξ + 1) = true := by
                    rw [zq_so, Bool.and_eq_true]
                    refine ⟨fun h9ξ => absurd h9ξ (by decide), fun h9ξ => ?_⟩
                    exfalso
                    have h8ξ := (Iff.mpr hsoξ) h9ξ.1
                    have h7ξ : ((zd_hr (zRw V) n1ξ npξ (zd_sp (zRw V) Lwξ (t9ξ : Int)) (zd_ru (zRw V) Lwξ (t9ξ : Int)) (t9ξ : Int) ((V 3 (2000 + (3 * i9ξ + 154))).toNat + 1)).1 (V 3 (2000 + (3 * i9ξ + 153))).toNat) = (V 3 (2000 + (3 * i9ξ + 155))) := of_decide_eq_true h9ξ.2
                    omega
                  refine zp_drop (L' := [(4, 0, ((i9ξ : Int) + 1)), (3, 0, 0), (2, 0, (t9ξ : Int)), (1, 0, (zq_fi (fun t => zq_so (zRw V) n1ξ npξ Lwξ (t : Int) nsξ) t9ξ)), (0, 2, (A 0 : Int))]) (by simp) ?_
                  exact ihi (i9ξ + 1) 0 (by omega) (by omega) (by omega) hso1ξ
                · refine zp_const (pc := 87) hx hb (zd_X12_fits (87, .iconst 1, 1, 0, []) (List.mem_of_getElem? (i := 54) rfl)) rfl rfl ?_
                  refine zp_goto (tgt := 92) (pc := 88) hx hb (zd_X12_fits (88, .goto 4, 3, 0, []) (List.mem_of_getElem? (i := 55) rfl)) rfl ?_
                  refine zp_store (L' := [(3, 0, 1), (5, 0, (3 * (i9ξ : Int) + 153)), (4, 0, (i9ξ : Int)), (2, 0, (t9ξ : Int)), (1, 0, (zq_fi (fun t => zq_so (zRw V) n1ξ npξ Lwξ (t : Int) nsξ) t9ξ)), (0, 2, (A 0 : Int))]) (pc := 92) hx hb hnLξ (zd_X12_fits (92, .istore_n 3, 1, 0, []) (List.mem_of_getElem? (i := 57) rfl)) rfl rfl rfl ?_
                  refine zp_iinc (L' := [(4, 0, ((i9ξ : Int) + 1)), (3, 0, 1), (5, 0, (3 * (i9ξ : Int) + 153)), (2, 0, (t9ξ : Int)), (1, 0, (zq_fi (fun t => zq_so (zRw V) n1ξ npξ Lwξ (t : Int) nsξ) t9ξ)), (0, 2, (A 0 : Int))]) (n := ((i9ξ : Int) + 1)) (pc := 93) hx hb hnLξ (zd_X12_fits (93, .iinc 4 1, 3, 0, []) (List.mem_of_getElem? (i := 58) rfl)) (j := 2) rfl (by omega) (zp_r0 (by omega) (by omega)) rfl rfl ?_
                  refine zp_goto (tgt := 25) (pc := 96) hx hb (zd_X12_fits (96, .goto (-71), 3, 0, []) (List.mem_of_getElem? (i := 59) rfl)) rfl ?_
                  have hso1ξ : (1 : Int) = 1 ↔ zq_so (zRw V) n1ξ npξ Lwξ (t9ξ : Int) (i9ξ + 1) = true := by
                    rw [zq_so, Bool.and_eq_true]
                    exact ⟨fun _ => ⟨(Iff.mp hsoξ) (by omega), decide_eq_true (show ((zd_hr (zRw V) n1ξ npξ (zd_sp (zRw V) Lwξ (t9ξ : Int)) (zd_ru (zRw V) Lwξ (t9ξ : Int)) (t9ξ : Int) ((V 3 (2000 + (3 * i9ξ + 154))).toNat + 1)).1 (V 3 (2000 + (3 * i9ξ + 153))).toNat) = (V 3 (2000 + (3 * i9ξ + 155))) by omega)⟩, fun _ => rfl⟩
                  refine zp_drop (L' := [(4, 0, ((i9ξ : Int) + 1)), (3, 0, 1), (2, 0, (t9ξ : Int)), (1, 0, (zq_fi (fun t => zq_so (zRw V) n1ξ npξ Lwξ (t : Int) nsξ) t9ξ)), (0, 2, (A 0 : Int))]) (by simp) ?_
                  exact ihi (i9ξ + 1) 1 (by omega) (by omega) (by omega) hso1ξ
        refine zp_drop (L' := [(4, 0, 0), (3, 0, 1), (2, 0, (t9ξ : Int)), (1, 0, (zq_fi (fun t => zq_so (zRw V) n1ξ npξ Lwξ (t : Int) nsξ) t9ξ)), (0, 2, (A 0 : Int))]) (by simp) ?_
        exact loopi nsξ 0 1 (by omega) (by decide) (by decide) ⟨fun _ => rfl, fun _ => rfl⟩
  refine zp_drop (L' := [(2, 0, 0), (1, 0, 0), (0, 2, (A 0 : Int))]) (by simp) ?_
  exact loopt 13 0 (zp_set M 0 0 0) (zp_set (zp_n u.2.1) (A 0) 0 0) (by omega) (zM_set hMξ (List.mem_of_getElem? (i := 0) rfl) (by decide)) hV9ξ (zSb_set (by decide) hSbξ)
