/-! part 8az: exact contracts: tools -/
theorem zp_methX {cn : String} {lk : List zk_L} {lc : List (Nat × Nat × Nat)} (hall : (lk.all (zt_lkin cn) && lc.all (zt_lcin cn)) = true) {l : Launch} {w : zk_W} (hW : zh_W w) {K : zk_K} {pl : Nat} {φ : (Nat → Option Nat) → (Nat → Nat → Int) → List Int → Prop} {ψ : (Nat → Option Nat) → (Nat → Nat → Int) → List Int → (Nat → Option Nat) → (Nat → Nat → Int) → Int → Prop} (hcls : K.1.cls = cn) (hb0 : (zt_cokb pl K && (zk_e0b (zt_types, lk, zt_dv, ([] : List zk_K), ([] : List Nat), lc, K) && (zk_Kk K != 2 && (zk_Kp K).all (fun f => decide (f.1 ≤ 2))))) = true)
    (hJ : ∀ (p : Program) (e : Env) (R : Room) (s : State) (m : MethodId) (args : Array Value) (below : List Frame) (meth : Method) (c : Code) (Q : State → Prop) (u : zk_M), p.tables.exec = Jvm.exec → c.code = K.2.1 → zk_ctx l R s m args meth c w u zt_TB cn zt_TB zt_mn (zt_types, lk, zt_dv, ([] : List zk_K), ([] : List Nat), lc, K) → Q = MQ below (fun _ st o t => zk_postX w K (zp_B ψ) u.1 u.2.1 u.2.2.1 st t o) args s (zk_Kr K).2.2.1 (zk_Kr K).2.2.2 (fun q => w.2.2.2.1 ≤ q) → u.2.2.2.2.1 = [] → u.2.2.2.1 = zk_Ke K → u.2.2.2.2.2.1 = K.2.2.1 → zk_all2 (zk_ok u.1) (zk_Kp K) u.2.2.1 → φ u.1 (zp_n u.2.1) u.2.2.1 → zp_J p l e R s m args below meth c Q w u [] 0 (zp_L0 0 (zk_Kp K) u.2.2.1) [] u.1 (zp_n u.2.1)) : zk_metX l w zt_dv zt_TB K (zp_A φ) (zp_B ψ) ∧ zk_cok w zt_TB K := by
  simp only [Bool.and_eq_true] at hb0
  obtain ⟨b1, b2, b3, b4⟩ := hb0
  rw [bne_iff_ne] at b3
  refine zh_methH hW (lk := lk) (KS := []) (km := []) (lc := lc) (K := K) (pl := pl) (A := zp_A φ) (B := zp_B ψ) b3 b2 (by rw [hcls]; simp only [Bool.and_eq_true] at hall ⊢; exact ⟨b1, by decide, hall.1, hall.2⟩) (fun K h => absurd h List.not_mem_nil) (fun p e R s m args below meth c Q P0 G0 ps X hx hb hA hps hE hQ H locs ls hG => ?_)
  have hE1 := hE [] P0 G0 (zk_Ke K) (zk_Ka K) ps (zk_Kp K) (zk_all2_len hps).symm (fun _ _ h => h)
  rw [show (zk_ev (zt_types, lk, zt_dv, ([] : List zk_K), ([] : List Nat), lc, K)).1.cls = cn from hcls] at hE1
  have hJ1 := hJ p e R s m args below meth c Q (P0, G0, ps, zk_Ke K, [], K.2.2.1, X) hx hb hE1 hQ rfl rfl rfl hps hA
  obtain ⟨h1, h2, h3, h4, h5, ⟨lv, h6a, h6b⟩, h7, h8, h9, h10, h11, h12, h13⟩ := hG
  have hlv := zp_L0_ok (fs := zk_Kp K) (ps := ps) (i := 0) (j := 3) (zk_all2_len hps) (fun t f h => by
    show (zk_V0 ++ zk_Kp K)[3 + t]? = some f
    rw [List.getElem?_append_right (by show 3 ≤ 3 + t; omega)]
    show (zk_Kp K)[3 + t - 3]? = some f
    rw [show 3 + t - 3 = t by omega]
    exact h) (fun t n h => by
    rw [List.getElem?_append_right (by show 3 ≤ 3 + t; omega)]
    show ps[3 + t - 3]? = some n
    rw [show 3 + t - 3 = t by omega]
    exact h) h6b
  rw [hlv] at h6a
  exact hJ1 G0 H locs ls rfl ⟨zp_wt.of h5, h7, h8, h9, h13⟩ h6a (zp_ks b4 hps) (fun q h => absurd h List.not_mem_nil)
noncomputable def zp_lkN : List zk_L := zt_lk_WoundTown_Town.map (fun r => r.1)
noncomputable def zp_lcN : List (Nat × Nat × Nat) := zt_lc_WoundTown_Town.map (fun r => r.1)
theorem zp_lkallN : (zp_lkN.all (zt_lkin "WoundTown$Town") && zp_lcN.all (zt_lcin "WoundTown$Town")) = true := by decide +kernel
theorem zr_eq {f : zk_F} {lo hi : Int} (h : f.1 = 0 ∧ f.2.2.1 = lo ∧ f.2.2.2 = hi) : f = (0, f.2.1, lo, hi) := by
  obtain ⟨a, b, c, d⟩ := f
  obtain ⟨h1, h2, h3⟩ := h
  dsimp only at h1 h2 h3 ⊢
  rw [h1, h2, h3]
theorem zr_st {P : Nat → Option Nat} {j : Nat} {lo hi v : Int} (h : (zk_fj zl_T j).1 = 0 ∧ (zk_fj zl_T j).2.2.1 = lo ∧ (zk_fj zl_T j).2.2.2 = hi) (h1 : lo ≤ v) (h2 : v ≤ hi) (h3 : -2147483648 ≤ v) (h4 : v ≤ 2147483647) : zk_ok P (zk_fj zl_T j) v := by
  rw [zr_eq h]
  exact zp_o0 h1 h2 h3 h4
theorem zr_o : ∀ n, n < 6 → (zk_fj zl_T (3 * n + 11)).1 = 0 ∧ (zk_fj zl_T (3 * n + 11)).2.2.1 = -2147483648 ∧ (zk_fj zl_T (3 * n + 11)).2.2.2 = 2147483647 := by decide +kernel
theorem zr_p : ∀ n, n < 6 → (zk_fj zl_T (3 * n + 12)).1 = 0 ∧ (zk_fj zl_T (3 * n + 12)).2.2.1 = -2147483648 ∧ (zk_fj zl_T (3 * n + 12)).2.2.2 = 2147483647 := by decide +kernel
theorem zr_l : ∀ n, n < 6 → (zk_fj zl_T (3 * n + 13)).1 = 0 ∧ (zk_fj zl_T (3 * n + 13)).2.2.1 = 0 ∧ (zk_fj zl_T (3 * n + 13)).2.2.2 = 9 := by decide +kernel
theorem zr_w0 : ∀ n, n < 10 → (zk_fj zl_T (5 * n + 39)).1 = 0 ∧ (zk_fj zl_T (5 * n + 39)).2.2.1 = 0 ∧ (zk_fj zl_T (5 * n + 39)).2.2.2 = 5 := by decide +kernel
theorem zr_w1 : ∀ n, n < 10 → (zk_fj zl_T (5 * n + 40)).1 = 0 ∧ (zk_fj zl_T (5 * n + 40)).2.2.1 = -2147483648 ∧ (zk_fj zl_T (5 * n + 40)).2.2.2 = 2147483647 := by decide +kernel
theorem zr_w2 : ∀ n, n < 10 → (zk_fj zl_T (5 * n + 41)).1 = 0 ∧ (zk_fj zl_T (5 * n + 41)).2.2.1 = -2147483648 ∧ (zk_fj zl_T (5 * n + 41)).2.2.2 = 2147483647 := by decide +kernel
theorem zr_w3 : ∀ n, n < 10 → (zk_fj zl_T (5 * n + 42)).1 = 0 ∧ (zk_fj zl_T (5 * n + 42)).2.2.1 = -2147483648 ∧ (zk_fj zl_T (5 * n + 42)).2.2.2 = 2147483647 := by decide +kernel
theorem zr_w4 : ∀ n, n < 10 → (zk_fj zl_T (5 * n + 43)).1 = 0 ∧ (zk_fj zl_T (5 * n + 43)).2.2.1 = -1 ∧ (zk_fj zl_T (5 * n + 43)).2.2.2 = 9 := by decide +kernel
theorem zr_d : ∀ n, n < 10 → (zk_fj zl_T (n + 29)).1 = 0 ∧ (zk_fj zl_T (n + 29)).2.2.1 = -2147483648 ∧ (zk_fj zl_T (n + 29)).2.2.2 = 2147483647 := by decide +kernel
theorem zr_s0 : ∀ n, n < 8 → (zk_fj zl_T (3 * n + 153)).1 = 0 ∧ (zk_fj zl_T (3 * n + 153)).2.2.1 = 0 ∧ (zk_fj zl_T (3 * n + 153)).2.2.2 = 9 := by decide +kernel
theorem zr_s1 : ∀ n, n < 8 → (zk_fj zl_T (3 * n + 154)).1 = 0 ∧ (zk_fj zl_T (3 * n + 154)).2.2.1 = 0 ∧ (zk_fj zl_T (3 * n + 154)).2.2.2 = 23 := by decide +kernel
theorem zr_s2 : ∀ n, n < 8 → (zk_fj zl_T (3 * n + 155)).1 = 0 ∧ (zk_fj zl_T (3 * n + 155)).2.2.1 = -2147483648 ∧ (zk_fj zl_T (3 * n + 155)).2.2.2 = 2147483647 := by decide +kernel
section ZPAZ
variable {p : Program} {l : Launch} {e : Env} {R : Room} {s : State} {m : MethodId} {args : Array Value} {below : List Frame} {meth : Method} {c : Code} {Q : State → Prop}
variable {cc : ByteArray} {w : zk_W} {u : zk_M} {Ts : List Jvm.Cond} {own : String}
variable {xs : List Nat} {pc : Nat} {L : List (Nat × Nat × Int)} {S : List (Nat × Int)} {P : Nat → Option Nat} {G : Nat → Nat → Int}
theorem zp_iastR (hx : p.tables.exec = Jvm.exec) (hb : c.code = cc) (hw : w.1 = zt_types) {eff : List (Nat × Nat × Nat)} (heff : u.2.2.2.1 = eff) {a j : Nat} {i v : Int} (hdg : decode cc pc = .ok (.iastore, 1)) (hp : P a = some 59) (hi : i = (j : Int)) (hj : j < 180) (hok : zk_ok P (zk_fj zl_T j) v) (he : ∃ c0 : Nat, zp_eb eff 59 c0 = true ∧ zk_pm c0 (2000 + j)) (kk : zp_J p l e R s m args below meth c Q w u [] (pc + 1) L S P (zp_set G a (2000 + j) v)) : zp_J p l e R s m args below meth c Q w u [] pc L ((0, v) :: (0, i) :: (2, (a : Int)) :: S) P G := by
  intro F H locs ls hF hI hL hkL hkS
  have hT : w.1[59]? = some zl_T := by rw [hw]; exact zl_T59
  have h1 : zl_T.1 = 1 := rfl
  have hk0 := zl_kd j
  have hT1 : zl_T.2.1 = 5580 := by decide +kernel
  obtain ⟨cA, n, f, o1, o2, o3, o4, o5, o6, o7⟩ := zp_iarr hI.1 hp hT (Or.inl h1)
  rw [hT1] at o2
  have hrl := hI.1.strong a 59 hp
  rw [zk_wt1.some hT, o1] at hrl
  have hxi : zk_xi 59 (fun q => (f q).toInt) := hrl.2.2.2
  obtain ⟨k1, k2⟩ := zp_tl hkS
  obtain ⟨k3, k4⟩ := zp_tl k2
  obtain ⟨i1, i2⟩ := zp_ix (n := n) hi (by omega) k3.2.1
  show W p l e R s m args below meth c H locs 0 0 Q (F0 m pc ls (.int (Int32.ofInt v) :: .int (Int32.ofInt i) :: zk_mk 2 (a : Int) :: S.map (fun q => zk_mk q.1 q.2)))
  rw [zp_ref]
  refine zw_iast hx hb o6 (by rw [h1] at o4; exact o4) i1 hdg (fun H1 jj e1 hz hk => ?_)
  rw [i2] at e1
  refine kk _ H1 _ ls (zp_up_n hF o1 (by omega) k1.2.1) (zp_wr hI hp hT (pk := fun k => k = 2000 + j) ?_ (show va_at _ _ (a, .inl (cA, n, .inl (zk_up f j (Int32.ofInt v)))) H1 from e1) hz hk ?_ (fun k hk2 => ?_) (Or.inr ?_)) hL hkL (zp_tl k4).2
  · unfold zk_el
    rw [h1]
    refine ⟨cA, n, _, rfl, by rw [hT1]; exact o2, o3, by rw [h1] at o4; exact o4, fun i' hi' => ?_⟩
    by_cases hij : i' = j
    · subst hij
      rw [zk_up_self]
      exact ⟨v, hok, by rw [hk0]; rfl⟩
    · rw [zk_up_ne hij]
      exact o5 i' hi'
  · rw [o1]
    refine ⟨rfl, rfl, fun i' hi' hP => ?_⟩
    show some (Value.int (f i')) = some (.int (zk_up f j _ i'))
    rw [zk_up_ne (fun e => hP (by rw [e]))]
  · subst hk2
    rw [heff]
    obtain ⟨c0, h1, h2⟩ := he
    exact zp_eb_ok h1 h2
  · show zk_xi 59 (fun q => (zk_up f j (Int32.ofInt v) q).toInt)
    exact hxi.put (hi := 179) rfl (fun q hq => by show (f q).toInt = (zk_up f j (Int32.ofInt v) q).toInt; rw [zk_up_ne (by omega)])
/-- longs: what one less the other is, where it is in bounds -/
theorem zp_lsubx (hx : p.tables.exec = Jvm.exec) (hb : c.code = cc) {a b n : Int} (hdg : decode cc pc = .ok (.lsub, 1)) (hn : a - b = n) (hr : zk_rg 1 n) (kk : zp_J p l e R s m args below meth c Q w u xs (pc + 1) L ((1, n) :: S) P G) : zp_J p l e R s m args below meth c Q w u xs pc L ((1, b) :: (1, a) :: S) P G := by
  subst hn
  intro F H locs ls hF hI hL hkL hkS
  refine zw_lbin (o := 1) hx hb rfl hdg (fun h => absurd h (by decide)) ?_
  have e : zk_lb 1 (Int64.ofInt a) (Int64.ofInt b) = Int64.ofInt (a - b) := by show Int64.ofInt a - Int64.ofInt b = _; rw [← Int64.ofInt_sub]
  rw [e]
  exact kk F H locs ls hF hI hL hkL (List.forall_mem_cons.mpr ⟨zp_k1 hr, (zp_tl (zp_tl hkS).2).2⟩)
/-- what two ints make, exactly -/
theorem zp_binx (hx : p.tables.exec = Jvm.exec) (hb : c.code = cc) {i : ClassFile.Instr} {o : Nat} {a b n : Int} (hdg : decode cc pc = .ok (i, 1)) (hi : zk_bnK i = some o) (ho : o < 9) (hn : (zk_bn o (Int32.ofInt a) (Int32.ofInt b)).toInt = n) (kk : zp_J p l e R s m args below meth c Q w u xs (pc + 1) L ((0, n) :: S) P G) : zp_J p l e R s m args below meth c Q w u xs pc L ((0, b) :: (0, a) :: S) P G := by
  subst hn
  intro F H locs ls hF hI hL hkL hkS
  obtain ⟨k1, k2⟩ := zp_tl hkS
  obtain ⟨k3, k4⟩ := zp_tl k2
  refine zw_bin hx hb hi hdg (fun h9 _ => absurd h9 (by omega)) ?_
  rw [zp_of32]
  exact kk F H locs ls hF hI hL hkL (List.forall_mem_cons.mpr ⟨zp_k0 (zk_to32 _).1, k4⟩)
end ZPAZ
/-- a byte of a number: the class's way, the reference's -/
noncomputable def zF_c (v s : Int) : Int := (zk_bn 3 (Int32.ofInt (zk_bn 8 (Int32.ofInt v) (Int32.ofInt s)).toInt) (Int32.ofInt 255)).toInt
noncomputable def zF_m (v s : Int) : Int := (zk_bn 3 (Int32.ofInt (zk_bn 7 (Int32.ofInt v) (Int32.ofInt s)).toInt) (Int32.ofInt 255)).toInt
theorem zF_bv (x : BitVec 32) (k : Nat) (hk : k ≤ 24) : (x >>> k) &&& 255#32 = (x.sshiftRight k) &&& 255#32 := by
  apply BitVec.eq_of_getLsbD_eq
  intro i hi
  rw [BitVec.getLsbD_and, BitVec.getLsbD_and, BitVec.getLsbD_ushiftRight, BitVec.getLsbD_sshiftRight]
  by_cases h8 : i < 8
  · have h1 : k + i < 32 := by omega
    have h2 : ¬ (32 ≤ i) := by omega
    simp [h1, h2]
  · have h3 : (255#32).getLsbD i = false := by
      have h : ∀ j, j < 32 → 8 ≤ j → (255#32).getLsbD j = false := by decide
      exact h i hi (by omega)
    rw [h3, Bool.and_false, Bool.and_false]
theorem zF_eq {v s : Int} (hs : s = 0 ∨ s = 8 ∨ s = 16 ∨ s = 24) : zF_c v s = zF_m v s := by
  unfold zF_c zF_m
  rw [show ∀ x : Int32, Int32.ofInt x.toInt = x from Int32.ofInt_toInt, show ∀ x : Int32, Int32.ofInt x.toInt = x from Int32.ofInt_toInt]
  congr 1
  show (zk_bn 8 (Int32.ofInt v) (Int32.ofInt s)) &&& (255 : Int32) = (zk_bn 7 (Int32.ofInt v) (Int32.ofInt s)) &&& (255 : Int32)
  generalize Int32.ofInt v = x
  rw [← Int32.toBitVec_inj, Int32.toBitVec_and, Int32.toBitVec_and]
  rcases hs with rfl | rfl | rfl | rfl
  · exact zF_bv x.toBitVec 0 (by decide)
  · exact zF_bv x.toBitVec 8 (by decide)
  · exact zF_bv x.toBitVec 16 (by decide)
  · exact zF_bv x.toBitVec 24 (by decide)
theorem zF_rg {v s : Int} : 0 ≤ zF_c v s ∧ zF_c v s ≤ 255 := by
  have h := zk_bn_in (o := 3) (a := (zk_bn 8 (Int32.ofInt v) (Int32.ofInt s)).toInt) (b := 255) (la := -2147483648) (ha := 2147483647) (lb := 255) (hb := 255) (zk_to32 _).1 (zp_r0 (by decide) (by decide)) (zk_to32 _).1.1 (zk_to32 _).1.2 (by decide) (by decide)
  exact h