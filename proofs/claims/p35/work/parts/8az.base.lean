/-! part 8az: road, guards, exactly -/
theorem zp_methX {cn : String} {lk : List zk_L} {lc : List (Nat × Nat × Nat)} (hall : (lk.all (zt_lkin cn) && lc.all (zt_lcin cn)) = true) {l : Launch} {w : zk_W} (hW : zh_W w) {K : zk_K} {pl : Nat} {φ : (Nat → Option Nat) → (Nat → Nat → Int) → List Int → Prop} {ψ : (Nat → Option Nat) → (Nat → Nat → Int) → List Int → (Nat → Option Nat) → (Nat → Nat → Int) → Int → Prop} (hcls : K.1.cls = cn) (hb0 : (zt_cokb pl K && (zk_e0b (zt_types, lk, zt_dv, ([] : List zk_K), ([] : List Nat), lc, K) && (zk_Kk K != 2 && (zk_Kp K).all (fun f => decide (f.1 ≤ 2))))) = true)
    (hJ : ∀ (p : Program) (e : Env) (R : Room) (s : State) (m : MethodId) (args : Array Value) (below : List Frame) (meth : Method) (c : Code) (Q : State → Prop) (u : zk_M), p.tables.exec = Jvm.exec → c.code = K.2.1 → zk_ctx l R s m args meth c w u zt_TB cn zt_TB zt_mn (zt_types, lk, zt_dv, ([] : List zk_K), ([] : List Nat), lc, K) → Q = MQ below (fun _ st o t => zk_postX w K (zp_B ψ) u.1 u.2.1 u.2.2.1 st t o) args s (zk_Kr K).2.2.1 (zk_Kr K).2.2.2 (fun q => w.2.2.2.1 ≤ q) → u.2.2.2.2.1 = [] → u.2.2.2.1 = zk_Ke K → u.2.2.2.2.2.1 = K.2.2.1 → zk_all2 (zk_ok u.1) (zk_Kp K) u.2.2.1 → φ u.1 (zp_n u.2.1) u.2.2.1 → zp_J p l e R s m args below meth c Q w u [] 0 (zp_L0 0 (zk_Kp K) u.2.2.1) [] u.1 (zp_n u.2.1)) : zk_metX l w zt_dv zt_TB K (zp_A φ) (zp_B ψ) ∧ zk_cok w zt_TB K := by
  simp only [Bool.and_eq_true] at hb0
  obtain ⟨b1, b2, b3, b4⟩ := hb0
  rw [bne_iff_ne] at b3
  refine zh_methH hW (lk := lk) (KS := []) (km := []) (lc := lc) (K := K) (pl := pl) (A := zp_A φ) (B := zp_B ψ) b3 b2 (by rw [hcls]; simp only [Bool.and_eq_true] at hall ⊢; exact ⟨b1, by decide, hall.1, hall.2⟩) (fun K h => absurd h List.not_mem_nil) (fun p e R s m args below meth c Q P0 G0 ps X hx hb hA hps hE hQ H locs ls hG => ?_)
  have hE1 := hE [] P0 G0 (zk_Ke K) (zk_Ka K) ps (zk_Kp K) (zk_all2_len hps).symm (fun _ _ h => h)
  rw [show (zk_ev (zt_types, lk, zt_dv, ([] : List zk_K), ([] : List Nat), lc, K)).1.cls = cn from hcls] at hE1
  have hJ1 := hJ p e R s m args below meth c Q (P0, G0, ps, zk_Ke K, [], K.2.2.1, X) hx hb hE1 hQ rfl rfl rfl hps hA
  obtain ⟨h1, h2, h3, h4, h5, ⟨lv, h6a, h6b⟩, h7, h8, h9, h10, h11, h12, h13⟩ := hG
  have hlv := zp_L0_ok (fs := zk_Kp K) (ps := ps) (i := 0) (j := 3) (zk_all2_len hps) (fun t f h => by
    show (zk_V0 ++ zk_Kp K)[3 + t]? = some f
    rw [List.getElem?_append_right (by show 3 ≤ 3 + t; omega)]
    show (zk_Kp K)[3 + t - 3]? = some f
    rw [show 3 + t - 3 = t by omega]
    exact h) (fun t n h => by
    rw [List.getElem?_append_right (by show 3 ≤ 3 + t; omega)]
    show ps[3 + t - 3]? = some n
    rw [show 3 + t - 3 = t by omega]
    exact h) h6b
  rw [hlv] at h6a
  exact hJ1 G0 H locs ls rfl ⟨zp_wt.of h5, h7, h8, h9, h13⟩ h6a (zp_ks b4 hps) (fun q h => absurd h List.not_mem_nil)
/-- answers put together, with what they tell -/
def zp_one (K : zk_K) (al : zk_A) : zk_K := (K.1, K.2.1, K.2.2.1, K.2.2.2.1, zk_Kk K, zk_Kc K, zk_Kp K, [al], zk_Ke K, zk_Kr K)
theorem zp_merge {l : Launch} {w : zk_W} {K : zk_K} {f' : zk_F} {φ : (Nat → Option Nat) → (Nat → Nat → Int) → List Int → Prop} {ψ ψ' : (Nat → Option Nat) → (Nat → Nat → Int) → List Int → (Nat → Option Nat) → (Nat → Nat → Int) → Int → Prop} (h : zk_metX l w zt_dv zt_TB K (zp_A φ) (zp_B ψ) ∧ zk_cok w zt_TB K) (hf : f'.1 ≤ 2)
    (hok : ∀ al ∈ zk_Ka K, ∃ f, al.1 = some f ∧ f.1 = f'.1 ∧ ∀ P rn, zk_ok P f rn → zk_ok P f' rn)
    (hψ : ∀ al ∈ zk_Ka K, ∀ (P : Nat → Option Nat) (G : Nat → Nat → Int) (ps : List Int) (P' : Nat → Option Nat) (G' : Nat → Nat → Int) (rn : Int), zk_all2 (zk_ok P) (zk_Kp K) ps → (∀ f, al.1 = some f → zk_ok P' f rn) → (∀ q ∈ al.2, zk_num ps rn q.1 ≤ zk_num ps rn q.2.1 + q.2.2) → ψ P G ps P' G' rn → ψ' P G ps P' G' rn) : zk_metX l w zt_dv zt_TB (zp_one K (some f', [])) (zp_A φ) (zp_B ψ') ∧ zk_cok w zt_TB (zp_one K (some f', [])) := by
  refine ⟨fun P0 F0 ps sz hps hA => MetFree.mono (h.1 P0 F0 ps sz hps hA) (fun _ _ hv => hv) (fun _ _ _ _ _ h => h) (fun av U o t hv hq => ⟨?_, hq.2⟩), h.2⟩
  obtain ⟨al, al1, rn, P', F', f1, f2, f3, f4, f5, f6, f7, f8, f9, g1, g2, hBB⟩ := hq.1
  obtain ⟨f, e1, e2, e3⟩ := hok al al1
  refine ⟨_, List.mem_singleton.mpr rfl, rn, P', F', ?_, fun g hg => ?_, fun q h => absurd h List.not_mem_nil, f4, f5, f6, f7, f8, f9, g1, g2, hψ al al1 P0 (zp_n F0) ps P' (zp_n F') rn hps (fun f hf => (f2 f hf).1) f3 hBB⟩
  · rw [f1, e1]
    show Outcome.returned (some (zk_mk f.1 rn)) = Outcome.returned (some (zk_mk f'.1 rn))
    rw [e2]
  · cases hg
    exact ⟨e3 _ _ (f2 f e1).1, hf⟩
def zψ_same : (Nat → Option Nat) → (Nat → Nat → Int) → List Int → (Nat → Option Nat) → (Nat → Nat → Int) → Int → Prop := fun _ _ ps _ _ rn => rn = ps.getD 1 0
theorem zX_rfd {l : Launch} {w : zk_W} (hW : zh_W w) : zk_metX l w zt_dv zt_TB (zp_one zK_13 (some (0, 0, (-2147483648), 2147483647), [])) (zp_A zp_tA) (zp_B zψ_same) ∧ zk_cok w zt_TB (zp_one zK_13 (some (0, 0, (-2147483648), 2147483647), [])) := by
  refine zp_merge (zp_plain (zq_13 hW)) (by decide) (fun al h => ?_) (fun al h P G ps P' G' rn hps h1 h2 _ => ?_)
  · rcases List.mem_cons.mp h with rfl | h
    · exact ⟨_, rfl, rfl, fun P rn hk => by have := zp_int hk; exact zp_o0 (by omega) (by omega) (by omega) (by omega)⟩
    · obtain rfl := List.mem_singleton.mp h
      exact ⟨_, rfl, rfl, fun P rn hk => hk⟩
  · obtain ⟨p0, p1, rfl, k0, k1⟩ := zp_ps2 hps
    show rn = p1
    rcases List.mem_cons.mp h with rfl | h
    · have c1 : p1 ≤ rn + 0 := h2 (1, 2, 0) (List.mem_of_getElem? (i := 0) rfl)
      have c2 : rn ≤ p1 + 0 := h2 (2, 1, 0) (List.mem_of_getElem? (i := 2) rfl)
      omega
    · obtain rfl := List.mem_singleton.mp h
      have c1 : p1 ≤ rn + 0 := h2 (1, 2, 0) (List.mem_of_getElem? (i := 0) rfl)
      have c2 : rn ≤ p1 + 0 := h2 (2, 1, 0) (List.mem_of_getElem? (i := 1) rfl)
      omega
theorem zX_awd {l : Launch} {w : zk_W} (hW : zh_W w) : zk_metX l w zt_dv zt_TB (zp_one zK_14 (some (0, 0, (-2147483648), 2147483647), [])) (zp_A zp_tA) (zp_B zψ_same) ∧ zk_cok w zt_TB (zp_one zK_14 (some (0, 0, (-2147483648), 2147483647), [])) := by
  refine zp_merge (zp_plain (zq_14 hW)) (by decide) (fun al h => ?_) (fun al h P G ps P' G' rn hps h1 h2 _ => ?_)
  · obtain rfl := List.mem_singleton.mp h
    exact ⟨_, rfl, rfl, fun P rn hk => hk⟩
  · obtain ⟨p0, p1, rfl, k0, k1⟩ := zp_ps2 hps
    show rn = p1
    obtain rfl := List.mem_singleton.mp h
    have c1 : p1 ≤ rn + 0 := h2 (1, 2, 0) (List.mem_of_getElem? (i := 0) rfl)
    have c2 : rn ≤ p1 + 0 := h2 (2, 1, 0) (List.mem_of_getElem? (i := 1) rfl)
    omega
theorem zr_pm {lo hi j : Nat} (h1 : lo ≤ j) (h2 : j ≤ hi) (h3 : hi < 256) (h4 : lo < 256) : zk_pm (3000 + 256 * lo + hi) (2000 + j) := by
  unfold zk_pm zk_er
  rw [if_neg (by omega), if_neg (by omega), if_neg (by omega), if_pos (by omega)]
  dsimp only
  omega
theorem zr_eq {f : zk_F} {lo hi : Int} (h : f.1 = 0 ∧ f.2.2.1 = lo ∧ f.2.2.2 = hi) : f = (0, f.2.1, lo, hi) := by
  obtain ⟨a, b, c, d⟩ := f
  obtain ⟨h1, h2, h3⟩ := h
  dsimp only at h1 h2 h3 ⊢
  rw [h1, h2, h3]
theorem zr_st {P : Nat → Option Nat} {j : Nat} {lo hi v : Int} (h : (zk_fj zl_T j).1 = 0 ∧ (zk_fj zl_T j).2.2.1 = lo ∧ (zk_fj zl_T j).2.2.2 = hi) (h1 : lo ≤ v) (h2 : v ≤ hi) (h3 : -2147483648 ≤ v) (h4 : v ≤ 2147483647) : zk_ok P (zk_fj zl_T j) v := by
  rw [zr_eq h]
  exact zp_o0 h1 h2 h3 h4
theorem zr_ld {P : Nat → Option Nat} {j : Nat} {lo hi v : Int} (h : (zk_fj zl_T j).1 = 0 ∧ (zk_fj zl_T j).2.2.1 = lo ∧ (zk_fj zl_T j).2.2.2 = hi) (hk : zk_ok P (zk_fj zl_T j) v) : zk_ok P (0, 0, lo, hi) v := by
  rw [zr_eq h] at hk
  exact hk
theorem zr_rd : ∀ j, j < 153 → 89 ≤ j → (zk_fj zl_T j).1 = 0 ∧ (zk_fj zl_T j).2.2.1 = -2147483648 ∧ (zk_fj zl_T j).2.2.2 = 2147483647 := by decide +kernel
section ZPAZ
variable {p : Program} {l : Launch} {e : Env} {R : Room} {s : State} {m : MethodId} {args : Array Value} {below : List Frame} {meth : Method} {c : Code} {Q : State → Prop}
variable {cc : ByteArray} {w : zk_W} {u : zk_M} {Ts : List Jvm.Cond} {own : String}
variable {xs : List Nat} {pc : Nat} {L : List (Nat × Nat × Int)} {S : List (Nat × Int)} {P : Nat → Option Nat} {G : Nat → Nat → Int}
theorem zp_iastR (hx : p.tables.exec = Jvm.exec) (hb : c.code = cc) (hw : w.1 = zt_types) {eff : List (Nat × Nat × Nat)} (heff : u.2.2.2.1 = eff) {a j : Nat} {i v : Int} (hdg : decode cc pc = .ok (.iastore, 1)) (hp : P a = some 59) (hi : i = (j : Int)) (hj : j < 180) (hok : zk_ok P (zk_fj zl_T j) v) (he : ∃ c0 : Nat, zp_eb eff 59 c0 = true ∧ zk_pm c0 (2000 + j)) (kk : zp_J p l e R s m args below meth c Q w u [] (pc + 1) L S P (zp_set G a (2000 + j) v)) : zp_J p l e R s m args below meth c Q w u [] pc L ((0, v) :: (0, i) :: (2, (a : Int)) :: S) P G := by
  intro F H locs ls hF hI hL hkL hkS
  have hT : w.1[59]? = some zl_T := by rw [hw]; exact zl_T59
  have h1 : zl_T.1 = 1 := rfl
  have hk0 := zl_kd j
  have hT1 : zl_T.2.1 = 5580 := by decide +kernel
  obtain ⟨cA, n, f, o1, o2, o3, o4, o5, o6, o7⟩ := zp_iarr hI.1 hp hT (Or.inl h1)
  rw [hT1] at o2
  have hrl := hI.1.strong a 59 hp
  rw [zk_wt1.some hT, o1] at hrl
  have hxi : zk_xi 59 (fun q => (f q).toInt) := hrl.2.2.2
  obtain ⟨k1, k2⟩ := zp_tl hkS
  obtain ⟨k3, k4⟩ := zp_tl k2
  obtain ⟨i1, i2⟩ := zp_ix (n := n) hi (by omega) k3.2.1
  show W p l e R s m args below meth c H locs 0 0 Q (F0 m pc ls (.int (Int32.ofInt v) :: .int (Int32.ofInt i) :: zk_mk 2 (a : Int) :: S.map (fun q => zk_mk q.1 q.2)))
  rw [zp_ref]
  refine zw_iast hx hb o6 (by rw [h1] at o4; exact o4) i1 hdg (fun H1 jj e1 hz hk => ?_)
  rw [i2] at e1
  refine kk _ H1 _ ls (zp_up_n hF o1 (by omega) k1.2.1) (zp_wr hI hp hT (pk := fun k => k = 2000 + j) ?_ (show va_at _ _ (a, .inl (cA, n, .inl (zk_up f j (Int32.ofInt v)))) H1 from e1) hz hk ?_ (fun k hk2 => ?_) (Or.inr ?_)) hL hkL (zp_tl k4).2
  · unfold zk_el
    rw [h1]
    refine ⟨cA, n, _, rfl, by rw [hT1]; exact o2, o3, by rw [h1] at o4; exact o4, fun i' hi' => ?_⟩
    by_cases hij : i' = j
    · subst hij
      rw [zk_up_self]
      exact ⟨v, hok, by rw [hk0]; rfl⟩
    · rw [zk_up_ne hij]
      exact o5 i' hi'
  · rw [o1]
    refine ⟨rfl, rfl, fun i' hi' hP => ?_⟩
    show some (Value.int (f i')) = some (.int (zk_up f j _ i'))
    rw [zk_up_ne (fun e => hP (by rw [e]))]
  · subst hk2
    rw [heff]
    obtain ⟨c0, h1, h2⟩ := he
    exact zp_eb_ok h1 h2
  · show zk_xi 59 (fun q => (zk_up f j (Int32.ofInt v) q).toInt)
    exact hxi.put (hi := 179) rfl (fun q hq => by show (f q).toInt = (zk_up f j (Int32.ofInt v) q).toInt; rw [zk_up_ne (by omega)])
/-- what two ints make, exactly -/
theorem zp_binx (hx : p.tables.exec = Jvm.exec) (hb : c.code = cc) {i : ClassFile.Instr} {o : Nat} {a b n : Int} (hdg : decode cc pc = .ok (i, 1)) (hi : zk_bnK i = some o) (ho : o < 9) (hn : (zk_bn o (Int32.ofInt a) (Int32.ofInt b)).toInt = n) (kk : zp_J p l e R s m args below meth c Q w u xs (pc + 1) L ((0, n) :: S) P G) : zp_J p l e R s m args below meth c Q w u xs pc L ((0, b) :: (0, a) :: S) P G := by
  subst hn
  intro F H locs ls hF hI hL hkL hkS
  obtain ⟨k1, k2⟩ := zp_tl hkS
  obtain ⟨k3, k4⟩ := zp_tl k2
  refine zw_bin hx hb hi hdg (fun h9 _ => absurd h9 (by omega)) ?_
  rw [zp_of32]
  exact kk F H locs ls hF hI hL hkL (List.forall_mem_cons.mpr ⟨zp_k0 (zk_to32 _).1, k4⟩)
/-- what two ints make: as a number -/
def zB (o : Nat) (a b : Int) : Int := (zk_bn o (Int32.ofInt a) (Int32.ofInt b)).toInt
theorem zp_binq (hx : p.tables.exec = Jvm.exec) (hb : c.code = cc) {i : ClassFile.Instr} {o : Nat} {a b : Int} (hdg : decode cc pc = .ok (i, 1)) (hi : zk_bnK i = some o) (hne : b ≠ 0) (kk : zp_J p l e R s m args below meth c Q w u xs (pc + 1) L ((0, zB o a b) :: S) P G) : zp_J p l e R s m args below meth c Q w u xs pc L ((0, b) :: (0, a) :: S) P G := by
  intro F H locs ls hF hI hL hkL hkS
  obtain ⟨k1, k2⟩ := zp_tl hkS
  obtain ⟨k3, k4⟩ := zp_tl k2
  refine zw_bin hx hb hi hdg (fun h9 hz => ?_) ?_
  · have e0 := zk_i32 k1.2.1
    dsimp only at e0
    rw [hz] at e0
    have : (0 : Int32).toInt = 0 := by decide
    omega
  rw [zp_of32]
  exact kk F H locs ls hF hI hL hkL (List.forall_mem_cons.mpr ⟨zp_k0 (zk_to32 _).1, k4⟩)
theorem zp_lookup (hx : p.tables.exec = Jvm.exec) (hb : c.code = cc) {dflt off : Int} {ps : Array (Int × Int)} {len tgt : Nat} {n : Int} (hdg : decode cc pc = .ok (.lookupswitch dflt ps, len)) (hp : (ps.toList.zip (ps.toList.drop 1)).all (fun (a, next) => a.1 < next.1) = true) (ho : Op.lookupswitch.offset ps.toList dflt n = off) (ht : (pc : Int) + off = (tgt : Int)) (kk : zp_J p l e R s m args below meth c Q w u xs tgt L S P G) : zp_J p l e R s m args below meth c Q w u xs pc L ((0, n) :: S) P G := by
  intro F H locs ls hF hI hL hkL hkS
  obtain ⟨k1, k2⟩ := zp_tl hkS
  exact lv_lookup hx hb hdg hp (by rw [zk_i32 k1.2.1]; exact ho) ht (kk F H locs ls hF hI hL hkL k2)
theorem zp_alen (hx : p.tables.exec = Jvm.exec) (hb : c.code = cc) (hw : w.1 = zt_types) {a t len : Nat} (hdg : decode cc pc = .ok (.arraylength, 1)) (hp : P a = some t) (hT : ∃ T, zt_types[t]? = some T ∧ T.1 = 1 ∧ T.2.1 = len ∧ T.2.2.1 = len) (hlen : zk_rg 0 (len : Int)) (kk : zp_J p l e R s m args below meth c Q w u xs (pc + 1) L ((0, (len : Int)) :: S) P G) : zp_J p l e R s m args below meth c Q w u xs pc L ((2, (a : Int)) :: S) P G := by
  obtain ⟨T, h1, h2, h3, h4⟩ := hT
  intro F H locs ls hF hI hL hkL hkS
  rw [← hw] at h1
  obtain ⟨cA, n, f, o1, o2, o3, o4, o5, o6, o7⟩ := zp_iarr hI.1 hp h1 (Or.inl h2)
  have hn : n = len := by omega
  subst hn
  show W p l e R s m args below meth c H locs 0 0 Q (F0 m pc ls (zk_mk 2 (a : Int) :: S.map (fun q => zk_mk q.1 q.2)))
  rw [zp_ref]
  have hr : zk_rg 0 (n : Int) := hlen
  exact zw_alen hx hb o6 (by rw [h2] at o4; exact o4) hdg (kk F H locs ls hF hI hL hkL (List.forall_mem_cons.mpr ⟨zp_k0 hr, (zp_tl hkS).2⟩))
end ZPAZ
/-- bits of a set, how many -/
def zgi (s k : Nat) : Bool := decide (zB 3 (zB 7 (s : Int) (k : Int)) 1 = 1)
def zon (s : Nat) : Nat → Int
  | 0 => 0
  | k + 1 => zon s k + zB 3 (zB 7 (s : Int) (k : Int)) 1
theorem zg_bit : ∀ s : Nat, s < 256 → ∀ k : Nat, k < 10 → 0 ≤ zB 3 (zB 7 (s : Int) (k : Int)) 1 ∧ zB 3 (zB 7 (s : Int) (k : Int)) 1 ≤ 1 := by decide +kernel
theorem zon_le {s : Nat} (hs : s < 256) : ∀ k, k ≤ 10 → 0 ≤ zon s k ∧ zon s k ≤ (k : Int)
  | 0, _ => ⟨Int.le_refl _, Int.le_refl _⟩
  | k + 1, h => by
    have ih := zon_le hs k (by omega)
    have hb := zg_bit s hs k (by omega)
    unfold zon
    omega
def zbc1 (x : Int) : Int := zB 1 x (zB 3 (zB 8 x 1) 1431655765)
def zbc2 (x : Int) : Int := zB 0 (zB 3 x 858993459) (zB 3 (zB 8 x 2) 858993459)
def zbc3 (x : Int) : Int := zB 3 (zB 0 x (zB 8 x 4)) 252645135
def zbc4 (x : Int) : Int := zB 0 x (zB 8 x 8)
def zbc5 (x : Int) : Int := zB 0 x (zB 8 x 16)
theorem zbc_eq : ∀ s, s < 256 → zB 3 (zbc5 (zbc4 (zbc3 (zbc2 (zbc1 ((s : Nat) : Int)))))) 63 = zon s 10 := by decide +kernel
def zgh (s r : Nat) : Bool := zgi s (r / 8) || zgi s (r % 8)
theorem zgh_eq : ∀ s, s < 256 → ∀ r, r < 64 → (decide (zB 3 (zB 4 (zB 6 1 (zB 9 ((r : Nat) : Int) 8)) (zB 6 1 (zB 10 ((r : Nat) : Int) 8))) ((s : Nat) : Int) = 0) = !zgh s r) := by decide +kernel
/-- roads guarded by a set: as the class asks, as the reference -/
def zgo (R : Nat → Int) (s : Nat) : Prop := ∀ r, r < 64 → 0 < R r → zgh s r = true
def zgp (R : Nat → Int) (s : Nat) : Prop := ∀ a b, a < 8 → b < a → ¬ R (8 * a + b) = 0 → zgi s a = true ∨ zgi s b = true
theorem zgh_all : ∀ r, r < 64 → zgh 255 r = true := by decide +kernel
/-- what roads are: none below 0, the same both ways, none from a place to itself -/
def zg_rs (R : Nat → Int) : Prop := (∀ r, r < 64 → 0 ≤ R r ∧ R r ≤ 99) ∧ (∀ a b, a < 8 → b < 8 → R (8 * a + b) = R (8 * b + a)) ∧ ∀ a, a < 8 → R (8 * a + a) = 0
theorem zg_op {R : Nat → Int} (h : zg_rs R) (s : Nat) : zgo R s ↔ zgp R s := by
  obtain ⟨h1, h2, h3⟩ := h
  have hr : ∀ a b, a < 8 → b < 8 → zgh s (8 * a + b) = (zgi s a || zgi s b) := fun a b ha hb => by
    unfold zgh
    rw [show (8 * a + b) / 8 = a by omega, show (8 * a + b) % 8 = b by omega]
  constructor
  · intro g a b ha hb hn
    have h4 := h1 (8 * a + b) (by omega)
    have h5 := g (8 * a + b) (by omega) (by omega)
    rw [hr a b ha (by omega), Bool.or_eq_true] at h5
    exact h5
  · intro g r hr64 hpos
    have er : r = 8 * (r / 8) + r % 8 := by omega
    obtain ⟨a, ha⟩ : ∃ a, a = r / 8 := ⟨_, rfl⟩
    obtain ⟨b, hb⟩ : ∃ b, b = r % 8 := ⟨_, rfl⟩
    have hr2 : r = 8 * a + b := by omega
    subst hr2
    rw [hr a b (by omega) (by omega), Bool.or_eq_true]
    by_cases hab : b < a
    · exact g a b (by omega) hab (by omega)
    · by_cases hab2 : a < b
      · rw [h2 a b (by omega) (by omega)] at hpos
        exact (g b a (by omega) hab2 (by omega)).symm
      · have : a = b := by omega
        subst this
        rw [h3 a (by omega)] at hpos
        omega
/-- the class's search: from 255 down -/
def zgb (ok : Nat → Prop) (best : Nat → Nat) : Prop := best 0 = 255 ∧ ∀ n, n < 256 → (zon (255 - n) 10 ≤ zon (best n) 10 ∧ ok (255 - n) → best (n + 1) = 255 - n) ∧ (¬ (zon (255 - n) 10 ≤ zon (best n) 10 ∧ ok (255 - n)) → best (n + 1) = best n)
/-- the reference's: from 0 up -/
def zgm (ok : Nat → Prop) (fw : Nat → Int) (its : Nat → Nat) : Prop := fw 0 = 100000000 ∧ its 0 = 0 ∧ ∀ n, n < 256 → (zon n 10 < fw n ∧ ok n → fw (n + 1) = zon n 10 ∧ its (n + 1) = n) ∧ (¬ (zon n 10 < fw n ∧ ok n) → fw (n + 1) = fw n ∧ its (n + 1) = its n)
theorem zg_same {ok : Nat → Prop} {best : Nat → Nat} {fw : Nat → Int} {its : Nat → Nat} (h255 : ok 255) (hb : zgb ok best) (hm : zgm ok fw its) : best 256 = its 256 ∧ fw 256 = zon (its 256) 10 ∧ best 256 < 256 := by
  obtain ⟨b0, b1⟩ := hb
  obtain ⟨m0, m1, m2⟩ := hm
  have hz : ∀ s, s < 256 → zon s 10 ≤ 10 := fun s hs => (zon_le hs 10 (Nat.le_refl _)).2
  have A : ∀ n, n ≤ 256 → ok (best n) ∧ best n < 256 ∧ ∀ s, 256 - n ≤ s → s < 256 → ok s → zon (best n) 10 < zon s 10 ∨ (zon (best n) 10 = zon s 10 ∧ best n ≤ s) := by
    intro n
    induction n with
    | zero => intro _; exact ⟨by rw [b0]; exact h255, by rw [b0]; decide, fun s h1 h2 => by omega⟩
    | succ n ih =>
      intro hn
      obtain ⟨i1, i2, i3⟩ := ih (by omega)
      by_cases hc : zon (255 - n) 10 ≤ zon (best n) 10 ∧ ok (255 - n)
      · rw [(b1 n (by omega)).1 hc]
        refine ⟨hc.2, by omega, fun s h1 h2 h3 => ?_⟩
        by_cases hs : s = 255 - n
        · rw [hs]; exact Or.inr ⟨rfl, Nat.le_refl _⟩
        · have := i3 s (by omega) h2 h3
          omega
      · rw [(b1 n (by omega)).2 hc]
        refine ⟨i1, i2, fun s h1 h2 h3 => ?_⟩
        by_cases hs : s = 255 - n
        · rw [hs] at h3 ⊢
          have : ¬ zon (255 - n) 10 ≤ zon (best n) 10 := fun z => hc ⟨z, h3⟩
          omega
        · exact i3 s (by omega) h2 h3
  have B : ∀ n, n ≤ 256 → (fw n = 100000000 ∧ ∀ s, s < n → ¬ ok s) ∨ (ok (its n) ∧ its n < n ∧ fw n = zon (its n) 10 ∧ ∀ s, s < n → ok s → zon (its n) 10 < zon s 10 ∨ (zon (its n) 10 = zon s 10 ∧ its n ≤ s)) := by
    intro n
    induction n with
    | zero => intro _; exact Or.inl ⟨m0, fun s h => absurd h (Nat.not_lt_zero s)⟩
    | succ n ih =>
      intro hn
      have hzn := hz n (by omega)
      by_cases hc : zon n 10 < fw n ∧ ok n
      · obtain ⟨e1, e2⟩ := (m2 n (by omega)).1 hc
        refine Or.inr ⟨by rw [e2]; exact hc.2, by omega, by rw [e1, e2], fun s h1 h2 => ?_⟩
        rw [e2]
        by_cases hs : s = n
        · rw [hs]; exact Or.inr ⟨rfl, Nat.le_refl _⟩
        · rcases ih (by omega) with ⟨g1, g2⟩ | ⟨g1, g2, g3, g4⟩
          · exact absurd h2 (g2 s (by omega))
          · have := g4 s (by omega) h2
            have := hc.1
            omega
      · obtain ⟨e1, e2⟩ := (m2 n (by omega)).2 hc
        rw [e1, e2]
        rcases ih (by omega) with ⟨g1, g2⟩ | ⟨g1, g2, g3, g4⟩
        · refine Or.inl ⟨g1, fun s h1 h2 => ?_⟩
          by_cases hs : s = n
          · rw [hs] at h2
            exact hc ⟨by omega, h2⟩
          · exact g2 s (by omega) h2
        · refine Or.inr ⟨g1, by omega, g3, fun s h1 h2 => ?_⟩
          by_cases hs : s = n
          · rw [hs] at h2 ⊢
            have : ¬ zon n 10 < fw n := fun z => hc ⟨z, h2⟩
            omega
          · exact g4 s (by omega) h2
  obtain ⟨a1, a2, a3⟩ := A 256 (Nat.le_refl _)
  rcases B 256 (Nat.le_refl _) with ⟨-, g2⟩ | ⟨g1, g2, g3, g4⟩
  · exact absurd h255 (g2 255 (by decide))
  · have c1 := a3 (its 256) (by omega) g2 g1
    have c2 := g4 (best 256) a2 a1
    refine ⟨by omega, g3, a2⟩
def zp_lkIg : List zk_L := zt_lk_java_lang_Integer.map (fun r => r.1)
def zp_lcIg : List (Nat × Nat × Nat) := []
theorem zp_lkallIg : (zp_lkIg.all (zt_lkin "java/lang/Integer") && zp_lcIg.all (zt_lcin "java/lang/Integer")) = true := by decide +kernel
def zK_bcx : zk_K := (zt_mn 158, prog_15_method_49_code, 1, (Option.some Jvm.ClassFile.FieldType.int), 0, 0, [(0, 0, 0, 255)], [(some (0, 0, 0, 10), [])], [], (0, 0, 0, 0))
def zψ_bcx : (Nat → Option Nat) → (Nat → Nat → Int) → List Int → (Nat → Option Nat) → (Nat → Nat → Int) → Int → Prop := fun P G ps P' G' rn => P' = P ∧ G' = G ∧ rn = zon (ps.getD 0 0).toNat 10
theorem zX_bcx {l : Launch} {w : zk_W} (hW : zh_W w) : zk_metX l w zt_dv zt_TB zK_bcx (zp_A zp_tA) (zp_B zψ_bcx) ∧ zk_cok w zt_TB zK_bcx := by
  refine zp_methX (cn := "java/lang/Integer") zp_lkallIg hW (pl := 1230) rfl (by decide +kernel) (fun p e R s m args below meth c Q u hx hb hE hQ hU5 heff hnL hok hφ => ?_)
  have hw := hW.1
  obtain ⟨p0, hps, k0⟩ := zp_ps1 hok
  have hrm : zk_Kr (zk_ev (zt_types, zp_lkIg, zt_dv, [], [], zp_lcIg, zK_bcx)) = zk_Kr zK_bcx := rfl
  rw [hps] at hφ ⊢
  have hi0 := zp_int k0
  show zp_J p l e R s m args below meth c Q w u [] 0 [(0, 0, p0)] [] u.1 (zp_n u.2.1)
  obtain ⟨s0, rfl⟩ := zp_nat hi0.1
  have hs : s0 < 256 := by omega
  have hbc := zbc_eq s0 hs
  have hzl := zon_le hs 10 (Nat.le_refl _)
  show zp_J p l e R s m args below meth c Q w u [] 0 [(0, 0, (s0 : Int))] [] u.1 (zp_n u.2.1)
  refine zp_load (pc := 0) hx hb (zd_J6_bitCount_0f7a4 (0, .iload_n 0, 1, 0, []) (List.mem_of_getElem? (i := 0) rfl)) rfl (j := 0) rfl ?_
  refine zp_load (pc := 1) hx hb (zd_J6_bitCount_0f7a4 (1, .iload_n 0, 1, 0, []) (List.mem_of_getElem? (i := 1) rfl)) rfl (j := 0) rfl ?_
  refine zp_const (pc := 2) hx hb (zd_J6_bitCount_0f7a4 (2, .iconst 1, 1, 0, []) (List.mem_of_getElem? (i := 2) rfl)) rfl rfl ?_
  refine zp_binx (o := 8) (n := (zB 8 (s0 : Int) 1)) (pc := 3) hx hb (zd_J6_bitCount_0f7a4 (3, .iushr, 1, 0, []) (List.mem_of_getElem? (i := 3) rfl)) rfl (by decide) rfl ?_
  refine zp_ldcw (pc := 4) hx hb hE (zd_J6_bitCount_0f7a4 (4, .ldc_w 265, 3, 0, []) (List.mem_of_getElem? (i := 4) rfl)) (j := 0) rfl ?_
  refine zp_binx (o := 3) (n := (zB 3 (zB 8 (s0 : Int) 1) 1431655765)) (pc := 7) hx hb (zd_J6_bitCount_0f7a4 (7, .iand, 1, 0, []) (List.mem_of_getElem? (i := 5) rfl)) rfl (by decide) rfl ?_
  refine zp_binx (o := 1) (n := (zB 1 (s0 : Int) (zB 3 (zB 8 (s0 : Int) 1) 1431655765))) (pc := 8) hx hb (zd_J6_bitCount_0f7a4 (8, .isub, 1, 0, []) (List.mem_of_getElem? (i := 6) rfl)) rfl (by decide) rfl ?_
  refine zp_store (L' := [(0, 0, (zB 1 (s0 : Int) (zB 3 (zB 8 (s0 : Int) 1) 1431655765)))]) (pc := 9) hx hb hnL (zd_J6_bitCount_0f7a4 (9, .istore_n 0, 1, 0, []) (List.mem_of_getElem? (i := 7) rfl)) rfl rfl rfl ?_
  refine zp_load (pc := 10) hx hb (zd_J6_bitCount_0f7a4 (10, .iload_n 0, 1, 0, []) (List.mem_of_getElem? (i := 8) rfl)) rfl (j := 0) rfl ?_
  refine zp_ldcw (pc := 11) hx hb hE (zd_J6_bitCount_0f7a4 (11, .ldc_w 266, 3, 0, []) (List.mem_of_getElem? (i := 9) rfl)) (j := 1) rfl ?_
  refine zp_binx (o := 3) (n := (zB 3 (zB 1 (s0 : Int) (zB 3 (zB 8 (s0 : Int) 1) 1431655765)) 858993459)) (pc := 14) hx hb (zd_J6_bitCount_0f7a4 (14, .iand, 1, 0, []) (List.mem_of_getElem? (i := 10) rfl)) rfl (by decide) rfl ?_
  refine zp_load (pc := 15) hx hb (zd_J6_bitCount_0f7a4 (15, .iload_n 0, 1, 0, []) (List.mem_of_getElem? (i := 11) rfl)) rfl (j := 0) rfl ?_
  refine zp_const (pc := 16) hx hb (zd_J6_bitCount_0f7a4 (16, .iconst 2, 1, 0, []) (List.mem_of_getElem? (i := 12) rfl)) rfl rfl ?_
  refine zp_binx (o := 8) (n := (zB 8 (zB 1 (s0 : Int) (zB 3 (zB 8 (s0 : Int) 1) 1431655765)) 2)) (pc := 17) hx hb (zd_J6_bitCount_0f7a4 (17, .iushr, 1, 0, []) (List.mem_of_getElem? (i := 13) rfl)) rfl (by decide) rfl ?_
  refine zp_ldcw (pc := 18) hx hb hE (zd_J6_bitCount_0f7a4 (18, .ldc_w 266, 3, 0, []) (List.mem_of_getElem? (i := 14) rfl)) (j := 1) rfl ?_
  refine zp_binx (o := 3) (n := (zB 3 (zB 8 (zB 1 (s0 : Int) (zB 3 (zB 8 (s0 : Int) 1) 1431655765)) 2) 858993459)) (pc := 21) hx hb (zd_J6_bitCount_0f7a4 (21, .iand, 1, 0, []) (List.mem_of_getElem? (i := 15) rfl)) rfl (by decide) rfl ?_
  refine zp_binx (o := 0) (n := (zB 0 (zB 3 (zB 1 (s0 : Int) (zB 3 (zB 8 (s0 : Int) 1) 1431655765)) 858993459) (zB 3 (zB 8 (zB 1 (s0 : Int) (zB 3 (zB 8 (s0 : Int) 1) 1431655765)) 2) 858993459))) (pc := 22) hx hb (zd_J6_bitCount_0f7a4 (22, .iadd, 1, 0, []) (List.mem_of_getElem? (i := 16) rfl)) rfl (by decide) rfl ?_
  refine zp_store (L' := [(0, 0, (zB 0 (zB 3 (zB 1 (s0 : Int) (zB 3 (zB 8 (s0 : Int) 1) 1431655765)) 858993459) (zB 3 (zB 8 (zB 1 (s0 : Int) (zB 3 (zB 8 (s0 : Int) 1) 1431655765)) 2) 858993459)))]) (pc := 23) hx hb hnL (zd_J6_bitCount_0f7a4 (23, .istore_n 0, 1, 0, []) (List.mem_of_getElem? (i := 17) rfl)) rfl rfl rfl ?_
  refine zp_load (pc := 24) hx hb (zd_J6_bitCount_0f7a4 (24, .iload_n 0, 1, 0, []) (List.mem_of_getElem? (i := 18) rfl)) rfl (j := 0) rfl ?_
  refine zp_load (pc := 25) hx hb (zd_J6_bitCount_0f7a4 (25, .iload_n 0, 1, 0, []) (List.mem_of_getElem? (i := 19) rfl)) rfl (j := 0) rfl ?_
  refine zp_const (pc := 26) hx hb (zd_J6_bitCount_0f7a4 (26, .iconst 4, 1, 0, []) (List.mem_of_getElem? (i := 20) rfl)) rfl rfl ?_
  refine zp_binx (o := 8) (n := (zB 8 (zB 0 (zB 3 (zB 1 (s0 : Int) (zB 3 (zB 8 (s0 : Int) 1) 1431655765)) 858993459) (zB 3 (zB 8 (zB 1 (s0 : Int) (zB 3 (zB 8 (s0 : Int) 1) 1431655765)) 2) 858993459)) 4)) (pc := 27) hx hb (zd_J6_bitCount_0f7a4 (27, .iushr, 1, 0, []) (List.mem_of_getElem? (i := 21) rfl)) rfl (by decide) rfl ?_
  refine zp_binx (o := 0) (n := (zB 0 (zB 0 (zB 3 (zB 1 (s0 : Int) (zB 3 (zB 8 (s0 : Int) 1) 1431655765)) 858993459) (zB 3 (zB 8 (zB 1 (s0 : Int) (zB 3 (zB 8 (s0 : Int) 1) 1431655765)) 2) 858993459)) (zB 8 (zB 0 (zB 3 (zB 1 (s0 : Int) (zB 3 (zB 8 (s0 : Int) 1) 1431655765)) 858993459) (zB 3 (zB 8 (zB 1 (s0 : Int) (zB 3 (zB 8 (s0 : Int) 1) 1431655765)) 2) 858993459)) 4))) (pc := 28) hx hb (zd_J6_bitCount_0f7a4 (28, .iadd, 1, 0, []) (List.mem_of_getElem? (i := 22) rfl)) rfl (by decide) rfl ?_
  refine zp_ldcw (pc := 29) hx hb hE (zd_J6_bitCount_0f7a4 (29, .ldc_w 267, 3, 0, []) (List.mem_of_getElem? (i := 23) rfl)) (j := 2) rfl ?_
  refine zp_binx (o := 3) (n := (zB 3 (zB 0 (zB 0 (zB 3 (zB 1 (s0 : Int) (zB 3 (zB 8 (s0 : Int) 1) 1431655765)) 858993459) (zB 3 (zB 8 (zB 1 (s0 : Int) (zB 3 (zB 8 (s0 : Int) 1) 1431655765)) 2) 858993459)) (zB 8 (zB 0 (zB 3 (zB 1 (s0 : Int) (zB 3 (zB 8 (s0 : Int) 1) 1431655765)) 858993459) (zB 3 (zB 8 (zB 1 (s0 : Int) (zB 3 (zB 8 (s0 : Int) 1) 1431655765)) 2) 858993459)) 4)) 252645135)) (pc := 32) hx hb (zd_J6_bitCount_0f7a4 (32, .iand, 1, 0, []) (List.mem_of_getElem? (i := 24) rfl)) rfl (by decide) rfl ?_
  refine zp_store (L' := [(0, 0, (zB 3 (zB 0 (zB 0 (zB 3 (zB 1 (s0 : Int) (zB 3 (zB 8 (s0 : Int) 1) 1431655765)) 858993459) (zB 3 (zB 8 (zB 1 (s0 : Int) (zB 3 (zB 8 (s0 : Int) 1) 1431655765)) 2) 858993459)) (zB 8 (zB 0 (zB 3 (zB 1 (s0 : Int) (zB 3 (zB 8 (s0 : Int) 1) 1431655765)) 858993459) (zB 3 (zB 8 (zB 1 (s0 : Int) (zB 3 (zB 8 (s0 : Int) 1) 1431655765)) 2) 858993459)) 4)) 252645135))]) (pc := 33) hx hb hnL (zd_J6_bitCount_0f7a4 (33, .istore_n 0, 1, 0, []) (List.mem_of_getElem? (i := 25) rfl)) rfl rfl rfl ?_
  refine zp_load (pc := 34) hx hb (zd_J6_bitCount_0f7a4 (34, .iload_n 0, 1, 0, []) (List.mem_of_getElem? (i := 26) rfl)) rfl (j := 0) rfl ?_
  refine zp_load (pc := 35) hx hb (zd_J6_bitCount_0f7a4 (35, .iload_n 0, 1, 0, []) (List.mem_of_getElem? (i := 27) rfl)) rfl (j := 0) rfl ?_
  refine zp_const (pc := 36) hx hb (zd_J6_bitCount_0f7a4 (36, .bipush 8, 2, 0, []) (List.mem_of_getElem? (i := 28) rfl)) rfl rfl ?_
  refine zp_binx (o := 8) (n := (zB 8 (zB 3 (zB 0 (zB 0 (zB 3 (zB 1 (s0 : Int) (zB 3 (zB 8 (s0 : Int) 1) 1431655765)) 858993459) (zB 3 (zB 8 (zB 1 (s0 : Int) (zB 3 (zB 8 (s0 : Int) 1) 1431655765)) 2) 858993459)) (zB 8 (zB 0 (zB 3 (zB 1 (s0 : Int) (zB 3 (zB 8 (s0 : Int) 1) 1431655765)) 858993459) (zB 3 (zB 8 (zB 1 (s0 : Int) (zB 3 (zB 8 (s0 : Int) 1) 1431655765)) 2) 858993459)) 4)) 252645135) 8)) (pc := 38) hx hb (zd_J6_bitCount_0f7a4 (38, .iushr, 1, 0, []) (List.mem_of_getElem? (i := 29) rfl)) rfl (by decide) rfl ?_
  refine zp_binx (o := 0) (n := (zB 0 (zB 3 (zB 0 (zB 0 (zB 3 (zB 1 (s0 : Int) (zB 3 (zB 8 (s0 : Int) 1) 1431655765)) 858993459) (zB 3 (zB 8 (zB 1 (s0 : Int) (zB 3 (zB 8 (s0 : Int) 1) 1431655765)) 2) 858993459)) (zB 8 (zB 0 (zB 3 (zB 1 (s0 : Int) (zB 3 (zB 8 (s0 : Int) 1) 1431655765)) 858993459) (zB 3 (zB 8 (zB 1 (s0 : Int) (zB 3 (zB 8 (s0 : Int) 1) 1431655765)) 2) 858993459)) 4)) 252645135) (zB 8 (zB 3 (zB 0 (zB 0 (zB 3 (zB 1 (s0 : Int) (zB 3 (zB 8 (s0 : Int) 1) 1431655765)) 858993459) (zB 3 (zB 8 (zB 1 (s0 : Int) (zB 3 (zB 8 (s0 : Int) 1) 1431655765)) 2) 858993459)) (zB 8 (zB 0 (zB 3 (zB 1 (s0 : Int) (zB 3 (zB 8 (s0 : Int) 1) 1431655765)) 858993459) (zB 3 (zB 8 (zB 1 (s0 : Int) (zB 3 (zB 8 (s0 : Int) 1) 1431655765)) 2) 858993459)) 4)) 252645135) 8))) (pc := 39) hx hb (zd_J6_bitCount_0f7a4 (39, .iadd, 1, 0, []) (List.mem_of_getElem? (i := 30) rfl)) rfl (by decide) rfl ?_
  refine zp_store (L' := [(0, 0, (zB 0 (zB 3 (zB 0 (zB 0 (zB 3 (zB 1 (s0 : Int) (zB 3 (zB 8 (s0 : Int) 1) 1431655765)) 858993459) (zB 3 (zB 8 (zB 1 (s0 : Int) (zB 3 (zB 8 (s0 : Int) 1) 1431655765)) 2) 858993459)) (zB 8 (zB 0 (zB 3 (zB 1 (s0 : Int) (zB 3 (zB 8 (s0 : Int) 1) 1431655765)) 858993459) (zB 3 (zB 8 (zB 1 (s0 : Int) (zB 3 (zB 8 (s0 : Int) 1) 1431655765)) 2) 858993459)) 4)) 252645135) (zB 8 (zB 3 (zB 0 (zB 0 (zB 3 (zB 1 (s0 : Int) (zB 3 (zB 8 (s0 : Int) 1) 1431655765)) 858993459) (zB 3 (zB 8 (zB 1 (s0 : Int) (zB 3 (zB 8 (s0 : Int) 1) 1431655765)) 2) 858993459)) (zB 8 (zB 0 (zB 3 (zB 1 (s0 : Int) (zB 3 (zB 8 (s0 : Int) 1) 1431655765)) 858993459) (zB 3 (zB 8 (zB 1 (s0 : Int) (zB 3 (zB 8 (s0 : Int) 1) 1431655765)) 2) 858993459)) 4)) 252645135) 8)))]) (pc := 40) hx hb hnL (zd_J6_bitCount_0f7a4 (40, .istore_n 0, 1, 0, []) (List.mem_of_getElem? (i := 31) rfl)) rfl rfl rfl ?_
  refine zp_load (pc := 41) hx hb (zd_J6_bitCount_0f7a4 (41, .iload_n 0, 1, 0, []) (List.mem_of_getElem? (i := 32) rfl)) rfl (j := 0) rfl ?_
  refine zp_load (pc := 42) hx hb (zd_J6_bitCount_0f7a4 (42, .iload_n 0, 1, 0, []) (List.mem_of_getElem? (i := 33) rfl)) rfl (j := 0) rfl ?_
  refine zp_const (pc := 43) hx hb (zd_J6_bitCount_0f7a4 (43, .bipush 16, 2, 0, []) (List.mem_of_getElem? (i := 34) rfl)) rfl rfl ?_
  refine zp_binx (o := 8) (n := (zB 8 (zB 0 (zB 3 (zB 0 (zB 0 (zB 3 (zB 1 (s0 : Int) (zB 3 (zB 8 (s0 : Int) 1) 1431655765)) 858993459) (zB 3 (zB 8 (zB 1 (s0 : Int) (zB 3 (zB 8 (s0 : Int) 1) 1431655765)) 2) 858993459)) (zB 8 (zB 0 (zB 3 (zB 1 (s0 : Int) (zB 3 (zB 8 (s0 : Int) 1) 1431655765)) 858993459) (zB 3 (zB 8 (zB 1 (s0 : Int) (zB 3 (zB 8 (s0 : Int) 1) 1431655765)) 2) 858993459)) 4)) 252645135) (zB 8 (zB 3 (zB 0 (zB 0 (zB 3 (zB 1 (s0 : Int) (zB 3 (zB 8 (s0 : Int) 1) 1431655765)) 858993459) (zB 3 (zB 8 (zB 1 (s0 : Int) (zB 3 (zB 8 (s0 : Int) 1) 1431655765)) 2) 858993459)) (zB 8 (zB 0 (zB 3 (zB 1 (s0 : Int) (zB 3 (zB 8 (s0 : Int) 1) 1431655765)) 858993459) (zB 3 (zB 8 (zB 1 (s0 : Int) (zB 3 (zB 8 (s0 : Int) 1) 1431655765)) 2) 858993459)) 4)) 252645135) 8)) 16)) (pc := 45) hx hb (zd_J6_bitCount_0f7a4 (45, .iushr, 1, 0, []) (List.mem_of_getElem? (i := 35) rfl)) rfl (by decide) rfl ?_
  refine zp_binx (o := 0) (n := (zB 0 (zB 0 (zB 3 (zB 0 (zB 0 (zB 3 (zB 1 (s0 : Int) (zB 3 (zB 8 (s0 : Int) 1) 1431655765)) 858993459) (zB 3 (zB 8 (zB 1 (s0 : Int) (zB 3 (zB 8 (s0 : Int) 1) 1431655765)) 2) 858993459)) (zB 8 (zB 0 (zB 3 (zB 1 (s0 : Int) (zB 3 (zB 8 (s0 : Int) 1) 1431655765)) 858993459) (zB 3 (zB 8 (zB 1 (s0 : Int) (zB 3 (zB 8 (s0 : Int) 1) 1431655765)) 2) 858993459)) 4)) 252645135) (zB 8 (zB 3 (zB 0 (zB 0 (zB 3 (zB 1 (s0 : Int) (zB 3 (zB 8 (s0 : Int) 1) 1431655765)) 858993459) (zB 3 (zB 8 (zB 1 (s0 : Int) (zB 3 (zB 8 (s0 : Int) 1) 1431655765)) 2) 858993459)) (zB 8 (zB 0 (zB 3 (zB 1 (s0 : Int) (zB 3 (zB 8 (s0 : Int) 1) 1431655765)) 858993459) (zB 3 (zB 8 (zB 1 (s0 : Int) (zB 3 (zB 8 (s0 : Int) 1) 1431655765)) 2) 858993459)) 4)) 252645135) 8)) (zB 8 (zB 0 (zB 3 (zB 0 (zB 0 (zB 3 (zB 1 (s0 : Int) (zB 3 (zB 8 (s0 : Int) 1) 1431655765)) 858993459) (zB 3 (zB 8 (zB 1 (s0 : Int) (zB 3 (zB 8 (s0 : Int) 1) 1431655765)) 2) 858993459)) (zB 8 (zB 0 (zB 3 (zB 1 (s0 : Int) (zB 3 (zB 8 (s0 : Int) 1) 1431655765)) 858993459) (zB 3 (zB 8 (zB 1 (s0 : Int) (zB 3 (zB 8 (s0 : Int) 1) 1431655765)) 2) 858993459)) 4)) 252645135) (zB 8 (zB 3 (zB 0 (zB 0 (zB 3 (zB 1 (s0 : Int) (zB 3 (zB 8 (s0 : Int) 1) 1431655765)) 858993459) (zB 3 (zB 8 (zB 1 (s0 : Int) (zB 3 (zB 8 (s0 : Int) 1) 1431655765)) 2) 858993459)) (zB 8 (zB 0 (zB 3 (zB 1 (s0 : Int) (zB 3 (zB 8 (s0 : Int) 1) 1431655765)) 858993459) (zB 3 (zB 8 (zB 1 (s0 : Int) (zB 3 (zB 8 (s0 : Int) 1) 1431655765)) 2) 858993459)) 4)) 252645135) 8)) 16))) (pc := 46) hx hb (zd_J6_bitCount_0f7a4 (46, .iadd, 1, 0, []) (List.mem_of_getElem? (i := 36) rfl)) rfl (by decide) rfl ?_
  refine zp_store (L' := [(0, 0, (zB 0 (zB 0 (zB 3 (zB 0 (zB 0 (zB 3 (zB 1 (s0 : Int) (zB 3 (zB 8 (s0 : Int) 1) 1431655765)) 858993459) (zB 3 (zB 8 (zB 1 (s0 : Int) (zB 3 (zB 8 (s0 : Int) 1) 1431655765)) 2) 858993459)) (zB 8 (zB 0 (zB 3 (zB 1 (s0 : Int) (zB 3 (zB 8 (s0 : Int) 1) 1431655765)) 858993459) (zB 3 (zB 8 (zB 1 (s0 : Int) (zB 3 (zB 8 (s0 : Int) 1) 1431655765)) 2) 858993459)) 4)) 252645135) (zB 8 (zB 3 (zB 0 (zB 0 (zB 3 (zB 1 (s0 : Int) (zB 3 (zB 8 (s0 : Int) 1) 1431655765)) 858993459) (zB 3 (zB 8 (zB 1 (s0 : Int) (zB 3 (zB 8 (s0 : Int) 1) 1431655765)) 2) 858993459)) (zB 8 (zB 0 (zB 3 (zB 1 (s0 : Int) (zB 3 (zB 8 (s0 : Int) 1) 1431655765)) 858993459) (zB 3 (zB 8 (zB 1 (s0 : Int) (zB 3 (zB 8 (s0 : Int) 1) 1431655765)) 2) 858993459)) 4)) 252645135) 8)) (zB 8 (zB 0 (zB 3 (zB 0 (zB 0 (zB 3 (zB 1 (s0 : Int) (zB 3 (zB 8 (s0 : Int) 1) 1431655765)) 858993459) (zB 3 (zB 8 (zB 1 (s0 : Int) (zB 3 (zB 8 (s0 : Int) 1) 1431655765)) 2) 858993459)) (zB 8 (zB 0 (zB 3 (zB 1 (s0 : Int) (zB 3 (zB 8 (s0 : Int) 1) 1431655765)) 858993459) (zB 3 (zB 8 (zB 1 (s0 : Int) (zB 3 (zB 8 (s0 : Int) 1) 1431655765)) 2) 858993459)) 4)) 252645135) (zB 8 (zB 3 (zB 0 (zB 0 (zB 3 (zB 1 (s0 : Int) (zB 3 (zB 8 (s0 : Int) 1) 1431655765)) 858993459) (zB 3 (zB 8 (zB 1 (s0 : Int) (zB 3 (zB 8 (s0 : Int) 1) 1431655765)) 2) 858993459)) (zB 8 (zB 0 (zB 3 (zB 1 (s0 : Int) (zB 3 (zB 8 (s0 : Int) 1) 1431655765)) 858993459) (zB 3 (zB 8 (zB 1 (s0 : Int) (zB 3 (zB 8 (s0 : Int) 1) 1431655765)) 2) 858993459)) 4)) 252645135) 8)) 16)))]) (pc := 47) hx hb hnL (zd_J6_bitCount_0f7a4 (47, .istore_n 0, 1, 0, []) (List.mem_of_getElem? (i := 37) rfl)) rfl rfl rfl ?_
  refine zp_load (pc := 48) hx hb (zd_J6_bitCount_0f7a4 (48, .iload_n 0, 1, 0, []) (List.mem_of_getElem? (i := 38) rfl)) rfl (j := 0) rfl ?_
  refine zp_const (pc := 49) hx hb (zd_J6_bitCount_0f7a4 (49, .bipush 63, 2, 0, []) (List.mem_of_getElem? (i := 39) rfl)) rfl rfl ?_
  refine zp_binx (o := 3) (n := (zB 3 (zB 0 (zB 0 (zB 3 (zB 0 (zB 0 (zB 3 (zB 1 (s0 : Int) (zB 3 (zB 8 (s0 : Int) 1) 1431655765)) 858993459) (zB 3 (zB 8 (zB 1 (s0 : Int) (zB 3 (zB 8 (s0 : Int) 1) 1431655765)) 2) 858993459)) (zB 8 (zB 0 (zB 3 (zB 1 (s0 : Int) (zB 3 (zB 8 (s0 : Int) 1) 1431655765)) 858993459) (zB 3 (zB 8 (zB 1 (s0 : Int) (zB 3 (zB 8 (s0 : Int) 1) 1431655765)) 2) 858993459)) 4)) 252645135) (zB 8 (zB 3 (zB 0 (zB 0 (zB 3 (zB 1 (s0 : Int) (zB 3 (zB 8 (s0 : Int) 1) 1431655765)) 858993459) (zB 3 (zB 8 (zB 1 (s0 : Int) (zB 3 (zB 8 (s0 : Int) 1) 1431655765)) 2) 858993459)) (zB 8 (zB 0 (zB 3 (zB 1 (s0 : Int) (zB 3 (zB 8 (s0 : Int) 1) 1431655765)) 858993459) (zB 3 (zB 8 (zB 1 (s0 : Int) (zB 3 (zB 8 (s0 : Int) 1) 1431655765)) 2) 858993459)) 4)) 252645135) 8)) (zB 8 (zB 0 (zB 3 (zB 0 (zB 0 (zB 3 (zB 1 (s0 : Int) (zB 3 (zB 8 (s0 : Int) 1) 1431655765)) 858993459) (zB 3 (zB 8 (zB 1 (s0 : Int) (zB 3 (zB 8 (s0 : Int) 1) 1431655765)) 2) 858993459)) (zB 8 (zB 0 (zB 3 (zB 1 (s0 : Int) (zB 3 (zB 8 (s0 : Int) 1) 1431655765)) 858993459) (zB 3 (zB 8 (zB 1 (s0 : Int) (zB 3 (zB 8 (s0 : Int) 1) 1431655765)) 2) 858993459)) 4)) 252645135) (zB 8 (zB 3 (zB 0 (zB 0 (zB 3 (zB 1 (s0 : Int) (zB 3 (zB 8 (s0 : Int) 1) 1431655765)) 858993459) (zB 3 (zB 8 (zB 1 (s0 : Int) (zB 3 (zB 8 (s0 : Int) 1) 1431655765)) 2) 858993459)) (zB 8 (zB 0 (zB 3 (zB 1 (s0 : Int) (zB 3 (zB 8 (s0 : Int) 1) 1431655765)) 858993459) (zB 3 (zB 8 (zB 1 (s0 : Int) (zB 3 (zB 8 (s0 : Int) 1) 1431655765)) 2) 858993459)) 4)) 252645135) 8)) 16)) 63)) (pc := 51) hx hb (zd_J6_bitCount_0f7a4 (51, .iand, 1, 0, []) (List.mem_of_getElem? (i := 40) rfl)) rfl (by decide) rfl ?_
  rw [show (zB 3 (zB 0 (zB 0 (zB 3 (zB 0 (zB 0 (zB 3 (zB 1 (s0 : Int) (zB 3 (zB 8 (s0 : Int) 1) 1431655765)) 858993459) (zB 3 (zB 8 (zB 1 (s0 : Int) (zB 3 (zB 8 (s0 : Int) 1) 1431655765)) 2) 858993459)) (zB 8 (zB 0 (zB 3 (zB 1 (s0 : Int) (zB 3 (zB 8 (s0 : Int) 1) 1431655765)) 858993459) (zB 3 (zB 8 (zB 1 (s0 : Int) (zB 3 (zB 8 (s0 : Int) 1) 1431655765)) 2) 858993459)) 4)) 252645135) (zB 8 (zB 3 (zB 0 (zB 0 (zB 3 (zB 1 (s0 : Int) (zB 3 (zB 8 (s0 : Int) 1) 1431655765)) 858993459) (zB 3 (zB 8 (zB 1 (s0 : Int) (zB 3 (zB 8 (s0 : Int) 1) 1431655765)) 2) 858993459)) (zB 8 (zB 0 (zB 3 (zB 1 (s0 : Int) (zB 3 (zB 8 (s0 : Int) 1) 1431655765)) 858993459) (zB 3 (zB 8 (zB 1 (s0 : Int) (zB 3 (zB 8 (s0 : Int) 1) 1431655765)) 2) 858993459)) 4)) 252645135) 8)) (zB 8 (zB 0 (zB 3 (zB 0 (zB 0 (zB 3 (zB 1 (s0 : Int) (zB 3 (zB 8 (s0 : Int) 1) 1431655765)) 858993459) (zB 3 (zB 8 (zB 1 (s0 : Int) (zB 3 (zB 8 (s0 : Int) 1) 1431655765)) 2) 858993459)) (zB 8 (zB 0 (zB 3 (zB 1 (s0 : Int) (zB 3 (zB 8 (s0 : Int) 1) 1431655765)) 858993459) (zB 3 (zB 8 (zB 1 (s0 : Int) (zB 3 (zB 8 (s0 : Int) 1) 1431655765)) 2) 858993459)) 4)) 252645135) (zB 8 (zB 3 (zB 0 (zB 0 (zB 3 (zB 1 (s0 : Int) (zB 3 (zB 8 (s0 : Int) 1) 1431655765)) 858993459) (zB 3 (zB 8 (zB 1 (s0 : Int) (zB 3 (zB 8 (s0 : Int) 1) 1431655765)) 2) 858993459)) (zB 8 (zB 0 (zB 3 (zB 1 (s0 : Int) (zB 3 (zB 8 (s0 : Int) 1) 1431655765)) 858993459) (zB 3 (zB 8 (zB 1 (s0 : Int) (zB 3 (zB 8 (s0 : Int) 1) 1431655765)) 2) 858993459)) 4)) 252645135) 8)) 16)) 63) = zon s0 10 from hbc]
  refine zp_iret (pc := 52) (n := (zon s0 10)) hx hb hE hQ hU5 rfl (by decide) (zd_J6_bitCount_0f7a4 (52, .ireturn, 1, 0, []) (List.mem_of_getElem? (i := 41) rfl)) (j := 0) rfl (zp_o0 (by omega) (by omega) (by omega) (by omega)) ?_
  rw [hps]
  exact ⟨rfl, rfl, rfl⟩
def zp_lkPl : List zk_L := zt_lk_WoundTown_Places.map (fun r => r.1)
def zp_lcPl : List (Nat × Nat × Nat) := zt_lc_WoundTown_Places.map (fun r => r.1)
theorem zp_lkallPl : (zp_lkPl.all (zt_lkin "WoundTown$Places") && zp_lcPl.all (zt_lcin "WoundTown$Places")) = true := by decide +kernel
def zK_igd : zk_K := (zt_mn 159, prog_6_method_3_code, 4, (Option.some Jvm.ClassFile.FieldType.boolean), 0, 4, [(2, 42, 0, 0), (0, 0, 0, 255)], [(some (0, 0, 0, 1), [])], [], (0, 0, 0, 0))
def zψ_igd : (Nat → Option Nat) → (Nat → Nat → Int) → List Int → (Nat → Option Nat) → (Nat → Nat → Int) → Int → Prop := fun P G ps P' G' rn => P' = P ∧ G' = G ∧ (rn = 1 ↔ zgo (fun j => G (ps.getD 0 0).toNat (2000 + j)) (ps.getD 1 0).toNat)
theorem zX_igd {l : Launch} {w : zk_W} (hW : zh_W w) : zk_metX l w zt_dv zt_TB zK_igd (zp_A zp_tA) (zp_B zψ_igd) ∧ zk_cok w zt_TB zK_igd := by
  refine zp_methX (cn := "WoundTown$Places") zp_lkallPl hW (pl := 1236) rfl (by decide +kernel) (fun p e R s m args below meth c Q u hx hb hE hQ hU5 heff hnL hok hφ => ?_)
  have hw := hW.1
  obtain ⟨p0, p1, hps, k0, k1⟩ := zp_ps2 hok
  have hrm : zk_Kr (zk_ev (zt_types, zp_lkPl, zt_dv, [], [], zp_lcPl, zK_igd)) = zk_Kr zK_igd := rfl
  rw [hps] at hφ ⊢
  have hi1 := zp_int k1
  show zp_J p l e R s m args below meth c Q w u [] 0 [(0, 2, p0), (1, 0, p1)] [] u.1 (zp_n u.2.1)
  obtain ⟨rd, rfl, qrd⟩ := zp_this k0
  obtain ⟨s0, rfl⟩ := zp_nat hi1.1
  have hs : s0 < 256 := by omega
  show zp_J p l e R s m args below meth c Q w u [] 0 [(0, 2, (rd : Int)), (1, 0, (s0 : Int))] [] u.1 (zp_n u.2.1)
  have loop : ∀ (n k : Nat), 65 - k < n → k ≤ 64 → (∀ r, r < k → 0 < zp_n u.2.1 rd (2000 + r) → zgh s0 r = true) → zp_J p l e R s m args below meth c Q w u [] 2 [(2, 0, (k : Int)), (0, 2, (rd : Int)), (1, 0, (s0 : Int))] [] u.1 (zp_n u.2.1) := by
    intro n
    induction n with
    | zero => intro k h; exact absurd h (Nat.not_lt_zero _)
    | succ n ih =>
      intro k hn hk hal
      refine zp_load (pc := 2) hx hb (zd_X4_isGuarded (2, .iload_n 2, 1, 0, []) (List.mem_of_getElem? (i := 2) rfl)) rfl (j := 0) rfl ?_
      refine zp_load (pc := 3) hx hb (zd_X4_isGuarded (3, .aload_n 0, 1, 0, []) (List.mem_of_getElem? (i := 3) rfl)) rfl (j := 1) rfl ?_
      refine zp_alen (len := 64) (pc := 4) hx hb hw (zd_X4_isGuarded (4, .arraylength, 1, 0, []) (List.mem_of_getElem? (i := 4) rfl)) qrd ⟨_, rfl, rfl, rfl, rfl⟩ (zp_r0 (by decide) (by decide)) ?_
      refine zp_icmp (pc := 5) (tgt := 42) hx hb (zd_X4_isGuarded (5, .if_icmp .ge 37, 3, 0, []) (List.mem_of_getElem? (i := 5) rfl)) rfl (fun (hc21 : 64 ≤ (k : Int)) => ?_) (fun (hc21 : ¬ (64 ≤ (k : Int))) => ?_)
      · refine zp_const (pc := 42) hx hb (zd_X4_isGuarded (42, .iconst 1, 1, 0, []) (List.mem_of_getElem? (i := 30) rfl)) rfl rfl ?_
        refine zp_zret (pc := 43) (n := 1) hx hb hE hQ hU5 rfl (by decide) (zd_X4_isGuarded (43, .ireturn, 1, 0, []) (List.mem_of_getElem? (i := 31) rfl)) (j := 0) rfl (zp_o0 (by omega) (by omega) (by omega) (by omega)) ?_
        rw [hps]
        refine ⟨rfl, rfl, ?_⟩
        show ((1 : Int) = 1 ↔ zgo (fun j => zp_n u.2.1 rd (2000 + j)) s0)
        exact ⟨fun _ r hr h => hal r (by omega) h, fun _ => rfl⟩
      · refine zp_const (pc := 8) hx hb (zd_X4_isGuarded (8, .iconst 1, 1, 0, []) (List.mem_of_getElem? (i := 6) rfl)) rfl rfl ?_
        refine zp_load (pc := 9) hx hb (zd_X4_isGuarded (9, .iload_n 2, 1, 0, []) (List.mem_of_getElem? (i := 7) rfl)) rfl (j := 0) rfl ?_
        refine zp_const (pc := 10) hx hb (zd_X4_isGuarded (10, .bipush 8, 2, 0, []) (List.mem_of_getElem? (i := 8) rfl)) rfl rfl ?_
        refine zp_binq (o := 9) (pc := 12) hx hb (zd_X4_isGuarded (12, .idiv, 1, 0, []) (List.mem_of_getElem? (i := 9) rfl)) rfl (by decide) ?_
        refine zp_binx (o := 6) (n := (zB 6 1 (zB 9 (k : Int) 8))) (pc := 13) hx hb (zd_X4_isGuarded (13, .ishl, 1, 0, []) (List.mem_of_getElem? (i := 10) rfl)) rfl (by decide) rfl ?_
        refine zp_const (pc := 14) hx hb (zd_X4_isGuarded (14, .iconst 1, 1, 0, []) (List.mem_of_getElem? (i := 11) rfl)) rfl rfl ?_
        refine zp_load (pc := 15) hx hb (zd_X4_isGuarded (15, .iload_n 2, 1, 0, []) (List.mem_of_getElem? (i := 12) rfl)) rfl (j := 0) rfl ?_
        refine zp_const (pc := 16) hx hb (zd_X4_isGuarded (16, .bipush 8, 2, 0, []) (List.mem_of_getElem? (i := 13) rfl)) rfl rfl ?_
        refine zp_binq (o := 10) (pc := 18) hx hb (zd_X4_isGuarded (18, .irem, 1, 0, []) (List.mem_of_getElem? (i := 14) rfl)) rfl (by decide) ?_
        refine zp_binx (o := 6) (n := (zB 6 1 (zB 10 (k : Int) 8))) (pc := 19) hx hb (zd_X4_isGuarded (19, .ishl, 1, 0, []) (List.mem_of_getElem? (i := 15) rfl)) rfl (by decide) rfl ?_
        refine zp_binx (o := 4) (n := (zB 4 (zB 6 1 (zB 9 (k : Int) 8)) (zB 6 1 (zB 10 (k : Int) 8)))) (pc := 20) hx hb (zd_X4_isGuarded (20, .ior, 1, 0, []) (List.mem_of_getElem? (i := 16) rfl)) rfl (by decide) rfl ?_
        refine zp_store (L' := [(3, 0, (zB 4 (zB 6 1 (zB 9 (k : Int) 8)) (zB 6 1 (zB 10 (k : Int) 8)))), (2, 0, (k : Int)), (0, 2, (rd : Int)), (1, 0, (s0 : Int))]) (pc := 21) hx hb hnL (zd_X4_isGuarded (21, .istore_n 3, 1, 0, []) (List.mem_of_getElem? (i := 17) rfl)) rfl rfl rfl ?_
        refine zp_load (pc := 22) hx hb (zd_X4_isGuarded (22, .aload_n 0, 1, 0, []) (List.mem_of_getElem? (i := 18) rfl)) rfl (j := 2) rfl ?_
        refine zp_load (pc := 23) hx hb (zd_X4_isGuarded (23, .iload_n 2, 1, 0, []) (List.mem_of_getElem? (i := 19) rfl)) rfl (j := 1) rfl ?_
        refine zp_iald (j := k) (v := ((zp_n u.2.1) rd (2000 + k))) (pc := 24) hx hb hw (zd_X4_isGuarded (24, .iaload, 1, 0, []) (List.mem_of_getElem? (i := 20) rfl)) (show zp_ia 1 42 = some (64, 0, 0, (-2147483648), 2147483647) from rfl) qrd (by omega) (by omega) rfl (fun hk22 => ?_)
        have hk22b := zp_int hk22
        refine zp_if (pc := 25) (tgt := 36) hx hb (zd_X4_isGuarded (25, .ifCond .le 11, 3, 0, []) (List.mem_of_getElem? (i := 21) rfl)) rfl (fun (hc23 : ((zp_n u.2.1) rd (2000 + k)) ≤ 0) => ?_) (fun (hc23 : ¬ (((zp_n u.2.1) rd (2000 + k)) ≤ 0)) => ?_)
        · refine zp_iinc (L' := [(2, 0, ((k : Int) + 1)), (3, 0, (zB 4 (zB 6 1 (zB 9 (k : Int) 8)) (zB 6 1 (zB 10 (k : Int) 8)))), (0, 2, (rd : Int)), (1, 0, (s0 : Int))]) (n := ((k : Int) + 1)) (pc := 36) hx hb hnL (zd_X4_isGuarded (36, .iinc 2 1, 3, 0, []) (List.mem_of_getElem? (i := 28) rfl)) (j := 1) rfl (by omega) (zp_r0 (by omega) (by omega)) rfl rfl ?_
          refine zp_goto (tgt := 2) (pc := 39) hx hb (zd_X4_isGuarded (39, .goto (-37), 3, 0, []) (List.mem_of_getElem? (i := 29) rfl)) rfl ?_
          refine zp_drop (L' := [(2, 0, ((k + 1 : Nat) : Int)), (0, 2, (rd : Int)), (1, 0, (s0 : Int))]) (by simp <;> omega) ?_
          refine ih (k + 1) (by omega) (by omega) (fun r hr hpos => ?_)
          by_cases hrk : r = k
          · subst hrk
            have h2 := zgh_eq s0 hs r (by omega)
            first
            | (exfalso; omega)
            | (cases hz : zgh s0 r with
               | true => rfl
               | false => (rw [hz] at h2; have h3 := of_decide_eq_true h2; exfalso; omega))
          · exact hal r (by omega) hpos
        · refine zp_load (pc := 28) hx hb (zd_X4_isGuarded (28, .iload_n 3, 1, 0, []) (List.mem_of_getElem? (i := 22) rfl)) rfl (j := 0) rfl ?_
          refine zp_load (pc := 29) hx hb (zd_X4_isGuarded (29, .iload_n 1, 1, 0, []) (List.mem_of_getElem? (i := 23) rfl)) rfl (j := 3) rfl ?_
          refine zp_binx (o := 3) (n := (zB 3 (zB 4 (zB 6 1 (zB 9 (k : Int) 8)) (zB 6 1 (zB 10 (k : Int) 8))) (s0 : Int))) (pc := 30) hx hb (zd_X4_isGuarded (30, .iand, 1, 0, []) (List.mem_of_getElem? (i := 24) rfl)) rfl (by decide) rfl ?_
          refine zp_if (pc := 31) (tgt := 36) hx hb (zd_X4_isGuarded (31, .ifCond .ne 5, 3, 0, []) (List.mem_of_getElem? (i := 25) rfl)) rfl (fun (hc24 : ¬ (zB 3 (zB 4 (zB 6 1 (zB 9 (k : Int) 8)) (zB 6 1 (zB 10 (k : Int) 8))) (s0 : Int)) = 0) => ?_) (fun (hc24 : ¬ (¬ (zB 3 (zB 4 (zB 6 1 (zB 9 (k : Int) 8)) (zB 6 1 (zB 10 (k : Int) 8))) (s0 : Int)) = 0)) => ?_)
          · refine zp_iinc (L' := [(2, 0, ((k : Int) + 1)), (3, 0, (zB 4 (zB 6 1 (zB 9 (k : Int) 8)) (zB 6 1 (zB 10 (k : Int) 8)))), (0, 2, (rd : Int)), (1, 0, (s0 : Int))]) (n := ((k : Int) + 1)) (pc := 36) hx hb hnL (zd_X4_isGuarded (36, .iinc 2 1, 3, 0, []) (List.mem_of_getElem? (i := 28) rfl)) (j := 1) rfl (by omega) (zp_r0 (by omega) (by omega)) rfl rfl ?_
            refine zp_goto (tgt := 2) (pc := 39) hx hb (zd_X4_isGuarded (39, .goto (-37), 3, 0, []) (List.mem_of_getElem? (i := 29) rfl)) rfl ?_
            refine zp_drop (L' := [(2, 0, ((k + 1 : Nat) : Int)), (0, 2, (rd : Int)), (1, 0, (s0 : Int))]) (by simp <;> omega) ?_
            refine ih (k + 1) (by omega) (by omega) (fun r hr hpos => ?_)
            by_cases hrk : r = k
            · subst hrk
              have h2 := zgh_eq s0 hs r (by omega)
              first
              | (exfalso; omega)
              | (cases hz : zgh s0 r with
                 | true => rfl
                 | false => (rw [hz] at h2; have h3 := of_decide_eq_true h2; exfalso; omega))
            · exact hal r (by omega) hpos
          · refine zp_const (pc := 34) hx hb (zd_X4_isGuarded (34, .iconst 0, 1, 0, []) (List.mem_of_getElem? (i := 26) rfl)) rfl rfl ?_
            refine zp_zret (pc := 35) (n := 0) hx hb hE hQ hU5 rfl (by decide) (zd_X4_isGuarded (35, .ireturn, 1, 0, []) (List.mem_of_getElem? (i := 27) rfl)) (j := 0) rfl (zp_o0 (by omega) (by omega) (by omega) (by omega)) ?_
            rw [hps]
            refine ⟨rfl, rfl, ?_⟩
            show ((0 : Int) = 1 ↔ zgo (fun j => zp_n u.2.1 rd (2000 + j)) s0)
            refine ⟨fun h => absurd h (by decide), fun h => ?_⟩
            exfalso
            have h1 := h k (by omega) (by show (0 : Int) < zp_n u.2.1 rd (2000 + k); omega)
            have h2 := zgh_eq s0 hs k (by omega)
            rw [h1] at h2
            exact absurd (of_decide_eq_false h2) (by omega)
  refine zp_const (pc := 0) hx hb (zd_X4_isGuarded (0, .iconst 0, 1, 0, []) (List.mem_of_getElem? (i := 0) rfl)) rfl rfl ?_
  refine zp_store (L' := [(2, 0, 0), (0, 2, (rd : Int)), (1, 0, (s0 : Int))]) (pc := 1) hx hb hnL (zd_X4_isGuarded (1, .istore_n 2, 1, 0, []) (List.mem_of_getElem? (i := 1) rfl)) rfl rfl rfl ?_
  exact loop 66 0 (by omega) (by omega) (fun r h => absurd h (Nat.not_lt_zero r))
/-- there is such a search -/
def zgbf (ok : Nat → Prop) (d : ∀ s, Decidable (ok s)) : Nat → Nat
  | 0 => 255
  | n + 1 => if zon (255 - n) 10 ≤ zon (zgbf ok d n) 10 ∧ @decide (ok (255 - n)) (d (255 - n)) = true then 255 - n else zgbf ok d n
theorem zgb_ex (ok : Nat → Prop) : ∃ best : Nat → Nat, zgb ok best := by
  refine ⟨zgbf ok (fun s => Classical.propDecidable (ok s)), rfl, fun n _ => ⟨fun h => ?_, fun h => ?_⟩⟩
  · exact if_pos ⟨h.1, @decide_eq_true _ (Classical.propDecidable _) h.2⟩
  · exact if_neg (fun z => h ⟨z.1, @of_decide_eq_true _ (Classical.propDecidable _) z.2⟩)
theorem zgb_lt {ok : Nat → Prop} {best : Nat → Nat} (h : zgb ok best) : ∀ n, n ≤ 256 → best n < 256
  | 0, _ => by rw [h.1]; decide
  | n + 1, hn => by
    have ih := zgb_lt h n (by omega)
    by_cases hc : zon (255 - n) 10 ≤ zon (best n) 10 ∧ ok (255 - n)
    · rw [(h.2 n (by omega)).1 hc]; omega
    · rw [(h.2 n (by omega)).2 hc]; exact ih
def zK_fgd : zk_K := (zt_mn 157, prog_6_method_2_code, 4, (Option.some Jvm.ClassFile.FieldType.int), 1, 4, [(2, 4, 0, 0), (2, 42, 0, 0)], [(some (0, 0, 0, 255), [])], [], (1, 40, 0, 0))
def zψ_fgd : (Nat → Option Nat) → (Nat → Nat → Int) → List Int → (Nat → Option Nat) → (Nat → Nat → Int) → Int → Prop := fun P G ps P' G' rn => P' = P ∧ G' = G ∧ ∃ best : Nat → Nat, zgb (zgo (fun j => G (ps.getD 1 0).toNat (2000 + j))) best ∧ rn = (best 256 : Nat)
theorem zX_fgd {l : Launch} {w : zk_W} (hW : zh_W w) : zk_metX l w zt_dv zt_TB zK_fgd (zp_A zp_tA) (zp_B zψ_fgd) ∧ zk_cok w zt_TB zK_fgd := by
  refine zp_methX (cn := "WoundTown$Places") zp_lkallPl hW (pl := 1227) rfl (by decide +kernel) (fun p e R s m args below meth c Q u hx hb hE hQ hU5 heff hnL hok hφ => ?_)
  have hw := hW.1
  obtain ⟨p0, p1, hps, k0, k1⟩ := zp_ps2 hok
  obtain ⟨a, rfl, hp⟩ := zp_this k0
  have hrm : zk_Kr (zk_ev (zt_types, zp_lkPl, zt_dv, [], [], zp_lcPl, zK_fgd)) = zk_Kr zK_fgd := rfl
  rw [hps] at hφ ⊢
  show zp_J p l e R s m args below meth c Q w u [] 0 [(0, 2, (a : Int)), (1, 2, p1)] [] u.1 (zp_n u.2.1)
  obtain ⟨rd, rfl, qrd⟩ := zp_this k1
  show zp_J p l e R s m args below meth c Q w u [] 0 [(0, 2, (a : Int)), (1, 2, (rd : Int))] [] u.1 (zp_n u.2.1)
  obtain ⟨ok, hok9⟩ : ∃ ok : Nat → Prop, ok = zgo (fun j => zp_n u.2.1 rd (2000 + j)) := ⟨_, rfl⟩
  obtain ⟨best, hb0, hb1⟩ : ∃ best : Nat → Nat, zgb ok best := zgb_ex ok
  have hbl : ∀ n, n ≤ 256 → best n < 256 := zgb_lt ⟨hb0, hb1⟩
  have loop : ∀ (n k : Nat), 257 - k < n → k ≤ 256 → zp_J p l e R s m args below meth c Q w u [] 6 [(3, 0, (255 - (k : Int))), (2, 0, (best k : Int)), (0, 2, (a : Int)), (1, 2, (rd : Int))] [] u.1 (zp_n u.2.1) := by
    intro n
    induction n with
    | zero => intro k h; exact absurd h (Nat.not_lt_zero _)
    | succ n ih =>
      intro k hn hk
      have hbk := hbl k hk
      refine zp_load (pc := 6) hx hb (zd_X4_fewestGuards (6, .iload_n 3, 1, 0, []) (List.mem_of_getElem? (i := 4) rfl)) rfl (j := 0) rfl ?_
      refine zp_if (pc := 7) (tgt := 37) hx hb (zd_X4_fewestGuards (7, .ifCond .lt 30, 3, 0, []) (List.mem_of_getElem? (i := 5) rfl)) rfl (fun (hc25 : (255 - (k : Int)) < 0) => ?_) (fun (hc25 : ¬ ((255 - (k : Int)) < 0)) => ?_)
      · refine zp_load (pc := 37) hx hb (zd_X4_fewestGuards (37, .iload_n 2, 1, 0, []) (List.mem_of_getElem? (i := 19) rfl)) rfl (j := 1) rfl ?_
        refine zp_iret (pc := 38) (n := (best k : Int)) hx hb hE hQ hU5 rfl (by decide) (zd_X4_fewestGuards (38, .ireturn, 1, 0, []) (List.mem_of_getElem? (i := 20) rfl)) (j := 0) rfl (zp_o0 (by omega) (by omega) (by omega) (by omega)) ?_
        rw [hps]
        refine ⟨rfl, rfl, best, ?_, ?_⟩
        · show zgb (zgo (fun j => zp_n u.2.1 rd (2000 + j))) best
          rw [← hok9]
          exact ⟨hb0, hb1⟩
        · show (best k : Int) = ((best 256 : Nat) : Int)
          rw [show k = 256 by omega]
      · refine zp_load (pc := 10) hx hb (zd_X4_fewestGuards (10, .iload_n 3, 1, 0, []) (List.mem_of_getElem? (i := 6) rfl)) rfl (j := 0) rfl ?_
        have hxb1 : ((255 - (k : Int))).toNat = (255 - k) := by omega
        refine zp_call (pc := 11) (how := 1) (idx := 18) (mi := 158) (S := []) hx hb hE hw heff hrm (zX_bcx hW) rfl (j := 0) rfl rfl (by decide +kernel) (zd_X4_fewestGuards (11, .invokestatic 18, 3, 0, []) (List.mem_of_getElem? (i := 7) rfl)) [(255 - (k : Int))] rfl ⟨zp_o0 (by omega) (by omega) (by omega) (by omega), trivial⟩ (Nat.le_of_ble_eq_true rfl) trivial (fun al hal rnb1 Pb1 Gb1 hextb1 hfrb1 hokb1 hcsb1 hpsib1 => ?_)
        obtain rfl := List.mem_singleton.mp hal
        have hrb1 := zp_int (hokb1 _ rfl).1
        obtain ⟨hPeb1, hGeb1, htb1⟩ := hpsib1
        have htb1 : rnb1 = zon ((255 - (k : Int))).toNat 10 := htb1
        rw [hPeb1, hGeb1]
        rw [hxb1] at htb1
        refine zp_load (pc := 14) hx hb (zd_X4_fewestGuards (14, .iload_n 2, 1, 0, []) (List.mem_of_getElem? (i := 8) rfl)) rfl (j := 1) rfl ?_
        have hxb2 : ((best k : Int)).toNat = (best k) := by omega
        refine zp_call (pc := 15) (how := 1) (idx := 18) (mi := 158) (S := [(0, rnb1)]) hx hb hE hw heff hrm (zX_bcx hW) rfl (j := 0) rfl rfl (by decide +kernel) (zd_X4_fewestGuards (15, .invokestatic 18, 3, 0, []) (List.mem_of_getElem? (i := 9) rfl)) [(best k : Int)] rfl ⟨zp_o0 (by omega) (by omega) (by omega) (by omega), trivial⟩ (Nat.le_of_ble_eq_true rfl) trivial (fun al hal rnb2 Pb2 Gb2 hextb2 hfrb2 hokb2 hcsb2 hpsib2 => ?_)
        obtain rfl := List.mem_singleton.mp hal
        have hrb2 := zp_int (hokb2 _ rfl).1
        obtain ⟨hPeb2, hGeb2, htb2⟩ := hpsib2
        have htb2 : rnb2 = zon ((best k : Int)).toNat 10 := htb2
        rw [hPeb2, hGeb2]
        rw [hxb2] at htb2
        refine zp_icmp (pc := 18) (tgt := 31) hx hb (zd_X4_fewestGuards (18, .if_icmp .gt 13, 3, 0, []) (List.mem_of_getElem? (i := 10) rfl)) rfl (fun (hc26 : rnb2 < rnb1) => ?_) (fun (hc26 : ¬ (rnb2 < rnb1)) => ?_)
        · refine zp_iinc (L' := [(3, 0, ((-1) * (k : Int) + 254)), (2, 0, (best k : Int)), (0, 2, (a : Int)), (1, 2, (rd : Int))]) (n := ((-1) * (k : Int) + 254)) (pc := 31) hx hb hnL (zd_X4_fewestGuards (31, .iinc 3 (-1), 3, 0, []) (List.mem_of_getElem? (i := 17) rfl)) (j := 0) rfl (by omega) (zp_r0 (by omega) (by omega)) rfl rfl ?_
          refine zp_goto (tgt := 6) (pc := 34) hx hb (zd_X4_fewestGuards (34, .goto (-28), 3, 0, []) (List.mem_of_getElem? (i := 18) rfl)) rfl ?_
          have hst := hb1 k (by omega)
          have hnx : best (k + 1) = best k := hst.2 (fun z => by obtain ⟨z1, z2⟩ := z; first | omega | (have h1 := z1; omega))
          refine zp_drop (L' := [(3, 0, (255 - ((k + 1 : Nat) : Int))), (2, 0, (best (k + 1) : Int)), (0, 2, (a : Int)), (1, 2, (rd : Int))]) (by simp <;> omega) ?_
          exact ih (k + 1) (by omega) (by omega)
        · refine zp_load (pc := 21) hx hb (zd_X4_fewestGuards (21, .aload_n 1, 1, 0, []) (List.mem_of_getElem? (i := 11) rfl)) rfl (j := 3) rfl ?_
          refine zp_load (pc := 22) hx hb (zd_X4_fewestGuards (22, .iload_n 3, 1, 0, []) (List.mem_of_getElem? (i := 12) rfl)) rfl (j := 0) rfl ?_
          refine zp_call (pc := 23) (how := 1) (idx := 24) (mi := 159) (S := []) hx hb hE hw heff hrm (zX_igd hW) rfl (j := 1) rfl rfl (by decide +kernel) (zd_X4_fewestGuards (23, .invokestatic 24, 3, 0, []) (List.mem_of_getElem? (i := 13) rfl)) [(rd : Int), (255 - (k : Int))] rfl ⟨zp_o2 qrd, zp_o0 (by omega) (by omega) (by omega) (by omega), trivial⟩ (Nat.le_of_ble_eq_true rfl) trivial (fun al hal rng3 Pg3 Gg3 hextg3 hfrg3 hokg3 hcsg3 hpsig3 => ?_)
          obtain rfl := List.mem_singleton.mp hal
          have hrg3 := zp_int (hokg3 _ rfl).1
          obtain ⟨hPeg3, hGeg3, htg3⟩ := hpsig3
          have htg3 : rng3 = 1 ↔ zgo (fun j => zp_n u.2.1 rd (2000 + j)) ((255 - (k : Int))).toNat := htg3
          rw [hPeg3, hGeg3]
          rw [show ((255 - (k : Int))).toNat = 255 - k by omega, ← hok9] at htg3
          refine zp_if (pc := 26) (tgt := 31) hx hb (zd_X4_fewestGuards (26, .ifCond .eq 5, 3, 0, []) (List.mem_of_getElem? (i := 14) rfl)) rfl (fun (hc27 : rng3 = 0) => ?_) (fun (hc27 : ¬ (rng3 = 0)) => ?_)
          · refine zp_iinc (L' := [(3, 0, ((-1) * (k : Int) + 254)), (2, 0, (best k : Int)), (0, 2, (a : Int)), (1, 2, (rd : Int))]) (n := ((-1) * (k : Int) + 254)) (pc := 31) hx hb hnL (zd_X4_fewestGuards (31, .iinc 3 (-1), 3, 0, []) (List.mem_of_getElem? (i := 17) rfl)) (j := 0) rfl (by omega) (zp_r0 (by omega) (by omega)) rfl rfl ?_
            refine zp_goto (tgt := 6) (pc := 34) hx hb (zd_X4_fewestGuards (34, .goto (-28), 3, 0, []) (List.mem_of_getElem? (i := 18) rfl)) rfl ?_
            have hst := hb1 k (by omega)
            have hnx : best (k + 1) = best k := hst.2 (fun z => by obtain ⟨z1, z2⟩ := z; first | omega | (have h1 := htg3.mpr z2; omega))
            refine zp_drop (L' := [(3, 0, (255 - ((k + 1 : Nat) : Int))), (2, 0, (best (k + 1) : Int)), (0, 2, (a : Int)), (1, 2, (rd : Int))]) (by simp <;> omega) ?_
            exact ih (k + 1) (by omega) (by omega)
          · refine zp_load (pc := 29) hx hb (zd_X4_fewestGuards (29, .iload_n 3, 1, 0, []) (List.mem_of_getElem? (i := 15) rfl)) rfl (j := 0) rfl ?_
            refine zp_store (L' := [(2, 0, (255 - (k : Int))), (3, 0, (255 - (k : Int))), (0, 2, (a : Int)), (1, 2, (rd : Int))]) (pc := 30) hx hb hnL (zd_X4_fewestGuards (30, .istore_n 2, 1, 0, []) (List.mem_of_getElem? (i := 16) rfl)) rfl rfl rfl ?_
            refine zp_iinc (L' := [(3, 0, ((-1) * (k : Int) + 254)), (2, 0, (255 - (k : Int))), (0, 2, (a : Int)), (1, 2, (rd : Int))]) (n := ((-1) * (k : Int) + 254)) (pc := 31) hx hb hnL (zd_X4_fewestGuards (31, .iinc 3 (-1), 3, 0, []) (List.mem_of_getElem? (i := 17) rfl)) (j := 1) rfl (by omega) (zp_r0 (by omega) (by omega)) rfl rfl ?_
            refine zp_goto (tgt := 6) (pc := 34) hx hb (zd_X4_fewestGuards (34, .goto (-28), 3, 0, []) (List.mem_of_getElem? (i := 18) rfl)) rfl ?_
            have hst := hb1 k (by omega)
            have hnx : best (k + 1) = 255 - k := hst.1 ⟨by omega, htg3.mp (by omega)⟩
            refine zp_drop (L' := [(3, 0, (255 - ((k + 1 : Nat) : Int))), (2, 0, (best (k + 1) : Int)), (0, 2, (a : Int)), (1, 2, (rd : Int))]) (by simp <;> omega) ?_
            exact ih (k + 1) (by omega) (by omega)
  refine zp_const (pc := 0) hx hb (zd_X4_fewestGuards (0, .sipush 255, 3, 0, []) (List.mem_of_getElem? (i := 0) rfl)) rfl rfl ?_
  refine zp_store (L' := [(2, 0, 255), (0, 2, (a : Int)), (1, 2, (rd : Int))]) (pc := 3) hx hb hnL (zd_X4_fewestGuards (3, .istore_n 2, 1, 0, []) (List.mem_of_getElem? (i := 1) rfl)) rfl rfl rfl ?_
  refine zp_load (pc := 4) hx hb (zd_X4_fewestGuards (4, .iload_n 2, 1, 0, []) (List.mem_of_getElem? (i := 2) rfl)) rfl (j := 0) rfl ?_
  refine zp_store (L' := [(3, 0, 255), (2, 0, 255), (0, 2, (a : Int)), (1, 2, (rd : Int))]) (pc := 5) hx hb hnL (zd_X4_fewestGuards (5, .istore_n 3, 1, 0, []) (List.mem_of_getElem? (i := 3) rfl)) rfl rfl rfl ?_
  refine zp_drop (L' := [(3, 0, (255 - ((0 : Nat) : Int))), (2, 0, (best 0 : Int)), (0, 2, (a : Int)), (1, 2, (rd : Int))]) (by simp <;> omega) ?_
  exact loop 258 0 (by omega) (by omega)
def zK_iwn : zk_K := (zt_mn 15, prog_1_method_55_code, 3, (Option.some Jvm.ClassFile.FieldType.boolean), 0, 11, [(0, 0, (-2147483648), 2147483647), (0, 0, (-2147483648), 2147483647), (0, 0, (-2147483648), 2147483647)], [(some (0, 0, 0, 1), [])], [], (0, 0, 0, 0))
def zψ_iwn : (Nat → Option Nat) → (Nat → Nat → Int) → List Int → (Nat → Option Nat) → (Nat → Nat → Int) → Int → Prop := fun P G ps P' G' rn => P' = P ∧ G' = G ∧ (rn = 1 ↔ ps.getD 1 0 ≤ ps.getD 0 0 ∧ ps.getD 0 0 ≤ ps.getD 2 0)
theorem zX_iwn {l : Launch} {w : zk_W} (hW : zh_W w) : zk_metX l w zt_dv zt_TB zK_iwn (zp_A zp_tA) (zp_B zψ_iwn) ∧ zk_cok w zt_TB zK_iwn := by
  refine zp_methX (cn := "WoundTown") zp_lkallW hW (pl := 607) rfl (by decide +kernel) (fun p e R s m args below meth c Q u hx hb hE hQ hU5 heff hnL hok hφ => ?_)
  have hw := hW.1
  obtain ⟨p0, p1, p2, hps, k0, k1, k2⟩ := zp_ps3 hok
  have hrm : zk_Kr (zk_ev (zt_types, zp_lkW, zt_dv, [], [], zp_lcW, zK_iwn)) = zk_Kr zK_iwn := rfl
  rw [hps] at hφ ⊢
  have hi0 := zp_int k0
  have hi1 := zp_int k1
  have hi2 := zp_int k2
  show zp_J p l e R s m args below meth c Q w u [] 0 [(0, 0, p0), (1, 0, p1), (2, 0, p2)] [] u.1 (zp_n u.2.1)
  refine zp_load (pc := 0) hx hb (zd_X11_isWithin (0, .iload_n 0, 1, 0, []) (List.mem_of_getElem? (i := 0) rfl)) rfl (j := 0) rfl ?_
  refine zp_load (pc := 1) hx hb (zd_X11_isWithin (1, .iload_n 1, 1, 0, []) (List.mem_of_getElem? (i := 1) rfl)) rfl (j := 1) rfl ?_
  refine zp_icmp (pc := 2) (tgt := 14) hx hb (zd_X11_isWithin (2, .if_icmp .lt 12, 3, 0, []) (List.mem_of_getElem? (i := 2) rfl)) rfl (fun (hc28 : p0 < p1) => ?_) (fun (hc28 : ¬ (p0 < p1)) => ?_)
  · refine zp_const (pc := 14) hx hb (zd_X11_isWithin (14, .iconst 0, 1, 0, []) (List.mem_of_getElem? (i := 8) rfl)) rfl rfl ?_
    refine zp_zret (pc := 15) (n := 0) hx hb hE hQ hU5 rfl (by decide) (zd_X11_isWithin (15, .ireturn, 1, 0, []) (List.mem_of_getElem? (i := 9) rfl)) (j := 0) rfl (zp_o0 (by omega) (by omega) (by omega) (by omega)) ?_
    rw [hps]
    refine ⟨rfl, rfl, ?_⟩
    show (0 = 1 ↔ p1 ≤ p0 ∧ p0 ≤ p2)
    omega
  · refine zp_load (pc := 5) hx hb (zd_X11_isWithin (5, .iload_n 0, 1, 0, []) (List.mem_of_getElem? (i := 3) rfl)) rfl (j := 0) rfl ?_
    refine zp_load (pc := 6) hx hb (zd_X11_isWithin (6, .iload_n 2, 1, 0, []) (List.mem_of_getElem? (i := 4) rfl)) rfl (j := 2) rfl ?_
    refine zp_icmp (pc := 7) (tgt := 14) hx hb (zd_X11_isWithin (7, .if_icmp .gt 7, 3, 0, []) (List.mem_of_getElem? (i := 5) rfl)) rfl (fun (hc29 : p2 < p0) => ?_) (fun (hc29 : ¬ (p2 < p0)) => ?_)
    · refine zp_const (pc := 14) hx hb (zd_X11_isWithin (14, .iconst 0, 1, 0, []) (List.mem_of_getElem? (i := 8) rfl)) rfl rfl ?_
      refine zp_zret (pc := 15) (n := 0) hx hb hE hQ hU5 rfl (by decide) (zd_X11_isWithin (15, .ireturn, 1, 0, []) (List.mem_of_getElem? (i := 9) rfl)) (j := 0) rfl (zp_o0 (by omega) (by omega) (by omega) (by omega)) ?_
      rw [hps]
      refine ⟨rfl, rfl, ?_⟩
      show (0 = 1 ↔ p1 ≤ p0 ∧ p0 ≤ p2)
      omega
    · refine zp_const (pc := 10) hx hb (zd_X11_isWithin (10, .iconst 1, 1, 0, []) (List.mem_of_getElem? (i := 6) rfl)) rfl rfl ?_
      refine zp_goto (tgt := 15) (pc := 11) hx hb (zd_X11_isWithin (11, .goto 4, 3, 0, []) (List.mem_of_getElem? (i := 7) rfl)) rfl ?_
      refine zp_zret (pc := 15) (n := 1) hx hb hE hQ hU5 rfl (by decide) (zd_X11_isWithin (15, .ireturn, 1, 0, []) (List.mem_of_getElem? (i := 9) rfl)) (j := 0) rfl (zp_o0 (by omega) (by omega) (by omega) (by omega)) ?_
      rw [hps]
      refine ⟨rfl, rfl, ?_⟩
      show (1 = 1 ↔ p1 ≤ p0 ∧ p0 ≤ p2)
      omega
def zK_gds : zk_K := (zt_mn 156, prog_1_method_42_code, 3, (Option.some Jvm.ClassFile.FieldType.int), 1, 11, [(2, 12, 0, 0), (0, 0, (-2147483648), 2147483647)], [(some (0, 0, (-1), 255), [])], [], (2, 80, 0, 0))
def zψ_gds : (Nat → Option Nat) → (Nat → Nat → Int) → List Int → (Nat → Option Nat) → (Nat → Nat → Int) → Int → Prop := fun P G ps P' G' rn => P' = P ∧ G' = G ∧ ∃ best : Nat → Nat, zgb (zgo (fun j => G (G (G (zp_0 ps) 0).toNat 0).toNat (2000 + j))) best ∧ best 256 < 256 ∧ (ps.getD 1 0 = 0 → rn = zon (best 256) 10) ∧ (ps.getD 1 0 = 1 → rn = (best 256 : Nat)) ∧ (¬ (0 ≤ ps.getD 1 0 ∧ ps.getD 1 0 ≤ 1) → rn = -1)
theorem zX_gds {l : Launch} {w : zk_W} (hW : zh_W w) : zk_metX l w zt_dv zt_TB zK_gds (zp_A zp_tA) (zp_B zψ_gds) ∧ zk_cok w zt_TB zK_gds := by
  refine zp_methX (cn := "WoundTown") zp_lkallW hW (pl := 1223) rfl (by decide +kernel) (fun p e R s m args below meth c Q u hx hb hE hQ hU5 heff hnL hok hφ => ?_)
  have hw := hW.1
  obtain ⟨p0, p1, hps, k0, k1⟩ := zp_ps2 hok
  obtain ⟨a, rfl, hp⟩ := zp_this k0
  have hrm : zk_Kr (zk_ev (zt_types, zp_lkW, zt_dv, [], [], zp_lcW, zK_gds)) = zk_Kr zK_gds := rfl
  rw [hps] at hφ ⊢
  have hi1 := zp_int k1
  show zp_J p l e R s m args below meth c Q w u [] 0 [(0, 2, (a : Int)), (1, 0, p1)] [] u.1 (zp_n u.2.1)
  refine zp_kn (k := 0) (a := a) hw (show zp_fd 12 0 = some (11, 2, 10, 0, 0) from rfl) rfl hp (fun hktn => ?_)
  obtain ⟨tn, htn, qtn⟩ := zp_this hktn
  refine zp_kn (k := 0) (a := tn) hw (show zp_fd 10 0 = some (9, 2, 42, 0, 0) from rfl) rfl qtn (fun hkrd => ?_)
  obtain ⟨rd, hrd, qrd⟩ := zp_this hkrd
  refine zp_kn (k := 6) (a := a) hw (show zp_fd 12 6 = some (11, 2, 4, 0, 0) from rfl) rfl hp (fun hkwy => ?_)
  obtain ⟨wy, hwy, qwy⟩ := zp_this hkwy
  have htt : (zp_n u.2.1 a 0).toNat = tn := by rw [htn, Int.toNat_natCast]
  have htr : (zp_n u.2.1 tn 0).toNat = rd := by rw [hrd, Int.toNat_natCast]
  refine zp_load (pc := 0) hx hb (zd_X11_guards (0, .aload_n 0, 1, 0, []) (List.mem_of_getElem? (i := 0) rfl)) rfl (j := 0) rfl ?_
  refine zp_getf (n := (wy : Int)) (pc := 1) hx hb hE hw (zd_X11_guards (1, .getfield 53, 3, 0, []) (List.mem_of_getElem? (i := 1) rfl)) (j := 56) rfl rfl rfl hp hwy ?_
  refine zp_load (pc := 4) hx hb (zd_X11_guards (4, .aload_n 0, 1, 0, []) (List.mem_of_getElem? (i := 2) rfl)) rfl (j := 0) rfl ?_
  refine zp_getf (n := (tn : Int)) (pc := 5) hx hb hE hw (zd_X11_guards (5, .getfield 10, 3, 0, []) (List.mem_of_getElem? (i := 3) rfl)) (j := 50) rfl rfl rfl hp htn ?_
  refine zp_getf (n := (rd : Int)) (pc := 8) hx hb hE hw (zd_X11_guards (8, .getfield 115, 3, 0, []) (List.mem_of_getElem? (i := 4) rfl)) (j := 9) rfl rfl rfl qtn hrd ?_
  refine zp_call (pc := 11) (how := 0) (idx := 407) (mi := 157) (S := []) hx hb hE hw heff hrm (zX_fgd hW) rfl (j := 58) rfl rfl (by decide +kernel) (zd_X11_guards (11, .invokevirtual 407, 3, 0, []) (List.mem_of_getElem? (i := 5) rfl)) [(wy : Int), (rd : Int)] rfl ⟨zp_o2 qwy, zp_o2 qrd, trivial⟩ (Nat.le_of_ble_eq_true rfl) trivial (fun al hal rnf4 Pf4 Gf4 hextf4 hfrf4 hokf4 hcsf4 hpsif4 => ?_)
  obtain rfl := List.mem_singleton.mp hal
  have hrf4 := zp_int (hokf4 _ rfl).1
  obtain ⟨hPef4, hGef4, htf4⟩ := hpsif4
  have htf4 : ∃ best : Nat → Nat, zgb (zgo (fun j => zp_n u.2.1 rd (2000 + j))) best ∧ rnf4 = (best 256 : Nat) := htf4
  rw [hPef4, hGef4]
  obtain ⟨best, hbb, hrb⟩ := htf4
  have hbl := zgb_lt hbb 256 (Nat.le_refl _)
  subst hrb
  refine zp_store (L' := [(2, 0, ((best 256 : Nat) : Int)), (0, 2, (a : Int)), (1, 0, p1)]) (pc := 14) hx hb hnL (zd_X11_guards (14, .istore_n 2, 1, 0, []) (List.mem_of_getElem? (i := 6) rfl)) rfl rfl rfl ?_
  refine zp_load (pc := 15) hx hb (zd_X11_guards (15, .iload_n 1, 1, 0, []) (List.mem_of_getElem? (i := 7) rfl)) rfl (j := 2) rfl ?_
  by_cases hs0 : p1 = 0
  · refine zp_lookup (off := 28) (tgt := 44) (pc := 16) hx hb (zd_X11_guards (16, .lookupswitch 35 #[(0, 28), (1, 33)], 28, 0, []) (List.mem_of_getElem? (i := 8) rfl)) (by decide) (by rw [hs0]; rfl) rfl ?_
    refine zp_load (pc := 44) hx hb (zd_X11_guards (44, .iload_n 2, 1, 0, []) (List.mem_of_getElem? (i := 9) rfl)) rfl (j := 0) rfl ?_
    refine zp_call (pc := 45) (how := 1) (idx := 411) (mi := 158) (S := []) hx hb hE hw heff hrm (zX_bcx hW) rfl (j := 59) rfl rfl (by decide +kernel) (zd_X11_guards (45, .invokestatic 411, 3, 0, []) (List.mem_of_getElem? (i := 10) rfl)) [((best 256 : Nat) : Int)] rfl ⟨zp_o0 (by omega) (by omega) (by omega) (by omega), trivial⟩ (Nat.le_of_ble_eq_true rfl) trivial (fun al hal rnb5 Pb5 Gb5 hextb5 hfrb5 hokb5 hcsb5 hpsib5 => ?_)
    obtain rfl := List.mem_singleton.mp hal
    have hrb5 := zp_int (hokb5 _ rfl).1
    obtain ⟨hPeb5, hGeb5, htb5⟩ := hpsib5
    have htb5 : rnb5 = zon (((best 256 : Nat) : Int)).toNat 10 := htb5
    rw [hPeb5, hGeb5]
    rw [Int.toNat_natCast] at htb5
    refine zp_iret (pc := 48) (n := rnb5) hx hb hE hQ hU5 rfl (by decide) (zd_X11_guards (48, .ireturn, 1, 0, []) (List.mem_of_getElem? (i := 11) rfl)) (j := 0) rfl (zp_o0 (by omega) (by omega) (by omega) (by omega)) ?_
    rw [hps]
    refine ⟨rfl, rfl, ?_⟩
    show ∃ bz : Nat → Nat, zgb (zgo (fun j => zp_n u.2.1 (zp_n u.2.1 (zp_n u.2.1 a 0).toNat 0).toNat (2000 + j))) bz ∧ bz 256 < 256 ∧ (p1 = 0 → rnb5 = zon (bz 256) 10) ∧ (p1 = 1 → (rnb5 : Int) = (bz 256 : Nat)) ∧ (¬ (0 ≤ p1 ∧ p1 ≤ 1) → rnb5 = -1)
    rw [htt, htr]
    exact ⟨best, hbb, hbl, by omega, by omega, by omega⟩
  by_cases hs1 : p1 = 1
  · refine zp_lookup (off := 33) (tgt := 49) (pc := 16) hx hb (zd_X11_guards (16, .lookupswitch 35 #[(0, 28), (1, 33)], 28, 0, []) (List.mem_of_getElem? (i := 8) rfl)) (by decide) (by rw [hs1]; rfl) rfl ?_
    refine zp_load (pc := 49) hx hb (zd_X11_guards (49, .iload_n 2, 1, 0, []) (List.mem_of_getElem? (i := 12) rfl)) rfl (j := 0) rfl ?_
    refine zp_iret (pc := 50) (n := ((best 256 : Nat) : Int)) hx hb hE hQ hU5 rfl (by decide) (zd_X11_guards (50, .ireturn, 1, 0, []) (List.mem_of_getElem? (i := 13) rfl)) (j := 0) rfl (zp_o0 (by omega) (by omega) (by omega) (by omega)) ?_
    rw [hps]
    refine ⟨rfl, rfl, ?_⟩
    show ∃ bz : Nat → Nat, zgb (zgo (fun j => zp_n u.2.1 (zp_n u.2.1 (zp_n u.2.1 a 0).toNat 0).toNat (2000 + j))) bz ∧ bz 256 < 256 ∧ (p1 = 0 → ((best 256 : Nat) : Int) = zon (bz 256) 10) ∧ (p1 = 1 → (((best 256 : Nat) : Int) : Int) = (bz 256 : Nat)) ∧ (¬ (0 ≤ p1 ∧ p1 ≤ 1) → ((best 256 : Nat) : Int) = -1)
    rw [htt, htr]
    exact ⟨best, hbb, hbl, by omega, by omega, by omega⟩
  refine zp_lookup (off := 35) (tgt := 51) (pc := 16) hx hb (zd_X11_guards (16, .lookupswitch 35 #[(0, 28), (1, 33)], 28, 0, []) (List.mem_of_getElem? (i := 8) rfl)) (by decide) (by show Op.lookupswitch.offset [(0, 28), (1, 33)] 35 p1 = 35; rw [Op.lookupswitch.offset_cons, if_neg (fun z => hs0 z.symm), Op.lookupswitch.offset_cons, if_neg (fun z => hs1 z.symm)]; rfl) rfl ?_
  refine zp_const (pc := 51) hx hb (zd_X11_guards (51, .iconst (-1), 1, 0, []) (List.mem_of_getElem? (i := 14) rfl)) rfl rfl ?_
  refine zp_iret (pc := 52) (n := (-1)) hx hb hE hQ hU5 rfl (by decide) (zd_X11_guards (52, .ireturn, 1, 0, []) (List.mem_of_getElem? (i := 15) rfl)) (j := 0) rfl (zp_o0 (by omega) (by omega) (by omega) (by omega)) ?_
  rw [hps]
  refine ⟨rfl, rfl, ?_⟩
  show ∃ bz : Nat → Nat, zgb (zgo (fun j => zp_n u.2.1 (zp_n u.2.1 (zp_n u.2.1 a 0).toNat 0).toNat (2000 + j))) bz ∧ bz 256 < 256 ∧ (p1 = 0 → (-1) = zon (bz 256) 10) ∧ (p1 = 1 → ((-1) : Int) = (bz 256 : Nat)) ∧ (¬ (0 ≤ p1 ∧ p1 ≤ 1) → (-1) = -1)
  rw [htt, htr]
  exact ⟨best, hbb, hbl, by omega, by omega, by omega⟩
def zK_rds : zk_K := (zt_mn 14, prog_1_method_2_code, 5, (Option.some Jvm.ClassFile.FieldType.int), 1, 11, [(2, 12, 0, 0), (0, 0, (-2147483648), 2147483647), (0, 0, (-2147483648), 2147483647), (0, 0, (-2147483648), 2147483647)], [(some (0, 0, (-2147483648), 2147483647), [])], [(42, 1001, 0), (12, 18, 0), (57, 1002, 0)], (1, 40, 0, 0))
def zψ_rds : (Nat → Option Nat) → (Nat → Nat → Int) → List Int → (Nat → Option Nat) → (Nat → Nat → Int) → Int → Prop := fun P G ps P' G' rn => (¬ (0 ≤ (ps.getD 1 0) ∧ (ps.getD 1 0) ≤ 7 ∧ 0 ≤ (ps.getD 2 0) ∧ (ps.getD 2 0) ≤ 7 ∧ ¬ (ps.getD 1 0) = (ps.getD 2 0) ∧ 0 ≤ (ps.getD 3 0) ∧ (ps.getD 3 0) ≤ 99) → rn = -1 ∧ ∀ j : Nat, G' (G (G (zp_0 ps) 0).toNat 0).toNat (2000 + j) = G (G (G (zp_0 ps) 0).toNat 0).toNat (2000 + j)) ∧ ((0 ≤ (ps.getD 1 0) ∧ (ps.getD 1 0) ≤ 7 ∧ 0 ≤ (ps.getD 2 0) ∧ (ps.getD 2 0) ≤ 7 ∧ ¬ (ps.getD 1 0) = (ps.getD 2 0) ∧ 0 ≤ (ps.getD 3 0) ∧ (ps.getD 3 0) ≤ 99) → rn = G (G (G (zp_0 ps) 0).toNat 0).toNat (2000 + (8 * ((ps.getD 1 0)).toNat + ((ps.getD 2 0)).toNat)) ∧ ∀ j : Nat, G' (G (G (zp_0 ps) 0).toNat 0).toNat (2000 + j) = if j = 8 * ((ps.getD 1 0)).toNat + ((ps.getD 2 0)).toNat ∨ j = 8 * ((ps.getD 2 0)).toNat + ((ps.getD 1 0)).toNat then (ps.getD 3 0) else G (G (G (zp_0 ps) 0).toNat 0).toNat (2000 + j))
theorem zX_rds {l : Launch} {w : zk_W} (hW : zh_W w) : zk_metX l w zt_dv zt_TB zK_rds (zp_A zp_tA) (zp_B zψ_rds) ∧ zk_cok w zt_TB zK_rds := by
  refine zp_methX (cn := "WoundTown") zp_lkallW hW (pl := 604) rfl (by decide +kernel) (fun p e R s m args below meth c Q u hx hb hE hQ hU5 heff hnL hok hφ => ?_)
  have hw := hW.1
  obtain ⟨p0, p1, p2, p3, hps, k0, k1, k2, k3⟩ := zp_ps4 hok
  obtain ⟨a, rfl, hp⟩ := zp_this k0
  have hrm : zk_Kr (zk_ev (zt_types, zp_lkW, zt_dv, [], [], zp_lcW, zK_rds)) = zk_Kr zK_rds := rfl
  rw [hps] at hφ ⊢
  have hi1 := zp_int k1
  have hi2 := zp_int k2
  have hi3 := zp_int k3
  show zp_J p l e R s m args below meth c Q w u [] 0 [(0, 2, (a : Int)), (1, 0, p1), (2, 0, p2), (3, 0, p3)] [] u.1 (zp_n u.2.1)
  refine zp_kn (k := 0) (a := a) hw (show zp_fd 12 0 = some (11, 2, 10, 0, 0) from rfl) rfl hp (fun hktn => ?_)
  obtain ⟨tn, htn, qtn⟩ := zp_this hktn
  refine zp_kn (k := 0) (a := tn) hw (show zp_fd 10 0 = some (9, 2, 42, 0, 0) from rfl) rfl qtn (fun hkrd => ?_)
  obtain ⟨rd, hrd, qrd⟩ := zp_this hkrd
  have htt : (zp_n u.2.1 a 0).toNat = tn := by rw [htn, Int.toNat_natCast]
  have htr : (zp_n u.2.1 tn 0).toNat = rd := by rw [hrd, Int.toNat_natCast]
  refine zp_load (pc := 0) hx hb (zd_X11_road (0, .iload_n 1, 1, 0, []) (List.mem_of_getElem? (i := 0) rfl)) rfl (j := 1) rfl ?_
  refine zp_const (pc := 1) hx hb (zd_X11_road (1, .iconst 0, 1, 0, []) (List.mem_of_getElem? (i := 1) rfl)) rfl rfl ?_
  refine zp_const (pc := 2) hx hb (zd_X11_road (2, .bipush 7, 2, 0, []) (List.mem_of_getElem? (i := 2) rfl)) rfl rfl ?_
  refine zp_call (pc := 4) (how := 1) (idx := 107) (mi := 15) (S := []) hx hb hE hw heff hrm (zX_iwn hW) rfl (j := 10) rfl rfl (by decide +kernel) (zd_X11_road (4, .invokestatic 107, 3, 0, []) (List.mem_of_getElem? (i := 3) rfl)) [p1, 0, 7] rfl ⟨zp_o0 (by omega) (by omega) (by omega) (by omega), zp_o0 (by omega) (by omega) (by omega) (by omega), zp_o0 (by omega) (by omega) (by omega) (by omega), trivial⟩ (Nat.le_of_ble_eq_true rfl) trivial (fun al hal rnw6 Pw6 Gw6 hextw6 hfrw6 hokw6 hcsw6 hpsiw6 => ?_)
  obtain rfl := List.mem_singleton.mp hal
  have hrw6 := zp_int (hokw6 _ rfl).1
  obtain ⟨hPew6, hGew6, htw6⟩ := hpsiw6
  have htw6 : rnw6 = 1 ↔ 0 ≤ p1 ∧ p1 ≤ 7 := htw6
  rw [hPew6, hGew6]
  refine zp_if (pc := 7) (tgt := 35) hx hb (zd_X11_road (7, .ifCond .eq 28, 3, 0, []) (List.mem_of_getElem? (i := 4) rfl)) rfl (fun (hc30 : rnw6 = 0) => ?_) (fun (hc30 : ¬ (rnw6 = 0)) => ?_)
  · refine zp_load (pc := 35) hx hb (zd_X11_road (35, .aload_n 0, 1, 0, []) (List.mem_of_getElem? (i := 18) rfl)) rfl (j := 0) rfl ?_
    refine zp_const (pc := 36) hx hb (zd_X11_road (36, .iconst (-1), 1, 0, []) (List.mem_of_getElem? (i := 19) rfl)) rfl rfl ?_
    refine zp_call (pc := 37) (how := 0) (idx := 111) (mi := 16) (S := []) hx hb hE hw heff hrm (zX_rfd hW) rfl (j := 11) rfl rfl (by decide +kernel) (zd_X11_road (37, .invokevirtual 111, 3, 0, []) (List.mem_of_getElem? (i := 20) rfl)) [(a : Int), (-1)] rfl ⟨zp_o2 hp, zp_o0 (by decide) (by decide) (by decide) (by decide), trivial⟩ (Nat.le_of_ble_eq_true rfl) trivial (fun al hal rnr7 Pr7 Gr7 hextr7 hfrr7 hokr7 hcsr7 hpsir7 => ?_)
    obtain rfl := List.mem_singleton.mp hal
    have hrr7 := zp_int (hokr7 _ rfl).1
    have yar7 := hextr7 _ _ hp
    have ytnr7 := hextr7 _ _ qtn
    have yrdr7 := hextr7 _ _ qrd
    have htr7 : rnr7 = (-1) := hpsir7
    refine zp_iret (pc := 40) (n := rnr7) hx hb hE hQ hU5 rfl (by decide) (zd_X11_road (40, .ireturn, 1, 0, []) (List.mem_of_getElem? (i := 21) rfl)) (j := 0) rfl (zp_o0 (by omega) (by omega) (by omega) (by omega)) ?_
    rw [hps]
    show (¬ (0 ≤ p1 ∧ p1 ≤ 7 ∧ 0 ≤ p2 ∧ p2 ≤ 7 ∧ ¬ p1 = p2 ∧ 0 ≤ p3 ∧ p3 ≤ 99) → rnr7 = -1 ∧ ∀ j : Nat, Gr7 (zp_n u.2.1 (zp_n u.2.1 a 0).toNat 0).toNat (2000 + j) = zp_n u.2.1 (zp_n u.2.1 (zp_n u.2.1 a 0).toNat 0).toNat (2000 + j)) ∧ ((0 ≤ p1 ∧ p1 ≤ 7 ∧ 0 ≤ p2 ∧ p2 ≤ 7 ∧ ¬ p1 = p2 ∧ 0 ≤ p3 ∧ p3 ≤ 99) → rnr7 = zp_n u.2.1 (zp_n u.2.1 (zp_n u.2.1 a 0).toNat 0).toNat (2000 + (8 * (p1).toNat + (p2).toNat)) ∧ ∀ j : Nat, Gr7 (zp_n u.2.1 (zp_n u.2.1 a 0).toNat 0).toNat (2000 + j) = if j = 8 * (p1).toNat + (p2).toNat ∨ j = 8 * (p2).toNat + (p1).toNat then p3 else zp_n u.2.1 (zp_n u.2.1 (zp_n u.2.1 a 0).toNat 0).toNat (2000 + j))
    rw [htt, htr]
    refine ⟨fun _ => ⟨by omega, fun j => zp_nc hfrr7 qrd rfl (2000 + j)⟩, fun h => by exfalso; omega⟩
  · refine zp_load (pc := 10) hx hb (zd_X11_road (10, .iload_n 2, 1, 0, []) (List.mem_of_getElem? (i := 5) rfl)) rfl (j := 2) rfl ?_
    refine zp_const (pc := 11) hx hb (zd_X11_road (11, .iconst 0, 1, 0, []) (List.mem_of_getElem? (i := 6) rfl)) rfl rfl ?_
    refine zp_const (pc := 12) hx hb (zd_X11_road (12, .bipush 7, 2, 0, []) (List.mem_of_getElem? (i := 7) rfl)) rfl rfl ?_
    refine zp_call (pc := 14) (how := 1) (idx := 107) (mi := 15) (S := []) hx hb hE hw heff hrm (zX_iwn hW) rfl (j := 10) rfl rfl (by decide +kernel) (zd_X11_road (14, .invokestatic 107, 3, 0, []) (List.mem_of_getElem? (i := 8) rfl)) [p2, 0, 7] rfl ⟨zp_o0 (by omega) (by omega) (by omega) (by omega), zp_o0 (by omega) (by omega) (by omega) (by omega), zp_o0 (by omega) (by omega) (by omega) (by omega), trivial⟩ (Nat.le_of_ble_eq_true rfl) trivial (fun al hal rnw8 Pw8 Gw8 hextw8 hfrw8 hokw8 hcsw8 hpsiw8 => ?_)
    obtain rfl := List.mem_singleton.mp hal
    have hrw8 := zp_int (hokw8 _ rfl).1
    obtain ⟨hPew8, hGew8, htw8⟩ := hpsiw8
    have htw8 : rnw8 = 1 ↔ 0 ≤ p2 ∧ p2 ≤ 7 := htw8
    rw [hPew8, hGew8]
    refine zp_if (pc := 17) (tgt := 35) hx hb (zd_X11_road (17, .ifCond .eq 18, 3, 0, []) (List.mem_of_getElem? (i := 9) rfl)) rfl (fun (hc31 : rnw8 = 0) => ?_) (fun (hc31 : ¬ (rnw8 = 0)) => ?_)
    · refine zp_load (pc := 35) hx hb (zd_X11_road (35, .aload_n 0, 1, 0, []) (List.mem_of_getElem? (i := 18) rfl)) rfl (j := 0) rfl ?_
      refine zp_const (pc := 36) hx hb (zd_X11_road (36, .iconst (-1), 1, 0, []) (List.mem_of_getElem? (i := 19) rfl)) rfl rfl ?_
      refine zp_call (pc := 37) (how := 0) (idx := 111) (mi := 16) (S := []) hx hb hE hw heff hrm (zX_rfd hW) rfl (j := 11) rfl rfl (by decide +kernel) (zd_X11_road (37, .invokevirtual 111, 3, 0, []) (List.mem_of_getElem? (i := 20) rfl)) [(a : Int), (-1)] rfl ⟨zp_o2 hp, zp_o0 (by decide) (by decide) (by decide) (by decide), trivial⟩ (Nat.le_of_ble_eq_true rfl) trivial (fun al hal rnr9 Pr9 Gr9 hextr9 hfrr9 hokr9 hcsr9 hpsir9 => ?_)
      obtain rfl := List.mem_singleton.mp hal
      have hrr9 := zp_int (hokr9 _ rfl).1
      have yar9 := hextr9 _ _ hp
      have ytnr9 := hextr9 _ _ qtn
      have yrdr9 := hextr9 _ _ qrd
      have htr9 : rnr9 = (-1) := hpsir9
      refine zp_iret (pc := 40) (n := rnr9) hx hb hE hQ hU5 rfl (by decide) (zd_X11_road (40, .ireturn, 1, 0, []) (List.mem_of_getElem? (i := 21) rfl)) (j := 0) rfl (zp_o0 (by omega) (by omega) (by omega) (by omega)) ?_
      rw [hps]
      show (¬ (0 ≤ p1 ∧ p1 ≤ 7 ∧ 0 ≤ p2 ∧ p2 ≤ 7 ∧ ¬ p1 = p2 ∧ 0 ≤ p3 ∧ p3 ≤ 99) → rnr9 = -1 ∧ ∀ j : Nat, Gr9 (zp_n u.2.1 (zp_n u.2.1 a 0).toNat 0).toNat (2000 + j) = zp_n u.2.1 (zp_n u.2.1 (zp_n u.2.1 a 0).toNat 0).toNat (2000 + j)) ∧ ((0 ≤ p1 ∧ p1 ≤ 7 ∧ 0 ≤ p2 ∧ p2 ≤ 7 ∧ ¬ p1 = p2 ∧ 0 ≤ p3 ∧ p3 ≤ 99) → rnr9 = zp_n u.2.1 (zp_n u.2.1 (zp_n u.2.1 a 0).toNat 0).toNat (2000 + (8 * (p1).toNat + (p2).toNat)) ∧ ∀ j : Nat, Gr9 (zp_n u.2.1 (zp_n u.2.1 a 0).toNat 0).toNat (2000 + j) = if j = 8 * (p1).toNat + (p2).toNat ∨ j = 8 * (p2).toNat + (p1).toNat then p3 else zp_n u.2.1 (zp_n u.2.1 (zp_n u.2.1 a 0).toNat 0).toNat (2000 + j))
      rw [htt, htr]
      refine ⟨fun _ => ⟨by omega, fun j => zp_nc hfrr9 qrd rfl (2000 + j)⟩, fun h => by exfalso; omega⟩
    · refine zp_load (pc := 20) hx hb (zd_X11_road (20, .iload_n 1, 1, 0, []) (List.mem_of_getElem? (i := 10) rfl)) rfl (j := 1) rfl ?_
      refine zp_load (pc := 21) hx hb (zd_X11_road (21, .iload_n 2, 1, 0, []) (List.mem_of_getElem? (i := 11) rfl)) rfl (j := 2) rfl ?_
      refine zp_icmp (pc := 22) (tgt := 35) hx hb (zd_X11_road (22, .if_icmp .eq 13, 3, 0, []) (List.mem_of_getElem? (i := 12) rfl)) rfl (fun (hc32 : p1 = p2) => ?_) (fun (hc32 : ¬ (p1 = p2)) => ?_)
      · refine zp_load (pc := 35) hx hb (zd_X11_road (35, .aload_n 0, 1, 0, []) (List.mem_of_getElem? (i := 18) rfl)) rfl (j := 0) rfl ?_
        refine zp_const (pc := 36) hx hb (zd_X11_road (36, .iconst (-1), 1, 0, []) (List.mem_of_getElem? (i := 19) rfl)) rfl rfl ?_
        refine zp_call (pc := 37) (how := 0) (idx := 111) (mi := 16) (S := []) hx hb hE hw heff hrm (zX_rfd hW) rfl (j := 11) rfl rfl (by decide +kernel) (zd_X11_road (37, .invokevirtual 111, 3, 0, []) (List.mem_of_getElem? (i := 20) rfl)) [(a : Int), (-1)] rfl ⟨zp_o2 hp, zp_o0 (by decide) (by decide) (by decide) (by decide), trivial⟩ (Nat.le_of_ble_eq_true rfl) trivial (fun al hal rnr10 Pr10 Gr10 hextr10 hfrr10 hokr10 hcsr10 hpsir10 => ?_)
        obtain rfl := List.mem_singleton.mp hal
        have hrr10 := zp_int (hokr10 _ rfl).1
        have yar10 := hextr10 _ _ hp
        have ytnr10 := hextr10 _ _ qtn
        have yrdr10 := hextr10 _ _ qrd
        have htr10 : rnr10 = (-1) := hpsir10
        refine zp_iret (pc := 40) (n := rnr10) hx hb hE hQ hU5 rfl (by decide) (zd_X11_road (40, .ireturn, 1, 0, []) (List.mem_of_getElem? (i := 21) rfl)) (j := 0) rfl (zp_o0 (by omega) (by omega) (by omega) (by omega)) ?_
        rw [hps]
        show (¬ (0 ≤ p1 ∧ p1 ≤ 7 ∧ 0 ≤ p2 ∧ p2 ≤ 7 ∧ ¬ p1 = p2 ∧ 0 ≤ p3 ∧ p3 ≤ 99) → rnr10 = -1 ∧ ∀ j : Nat, Gr10 (zp_n u.2.1 (zp_n u.2.1 a 0).toNat 0).toNat (2000 + j) = zp_n u.2.1 (zp_n u.2.1 (zp_n u.2.1 a 0).toNat 0).toNat (2000 + j)) ∧ ((0 ≤ p1 ∧ p1 ≤ 7 ∧ 0 ≤ p2 ∧ p2 ≤ 7 ∧ ¬ p1 = p2 ∧ 0 ≤ p3 ∧ p3 ≤ 99) → rnr10 = zp_n u.2.1 (zp_n u.2.1 (zp_n u.2.1 a 0).toNat 0).toNat (2000 + (8 * (p1).toNat + (p2).toNat)) ∧ ∀ j : Nat, Gr10 (zp_n u.2.1 (zp_n u.2.1 a 0).toNat 0).toNat (2000 + j) = if j = 8 * (p1).toNat + (p2).toNat ∨ j = 8 * (p2).toNat + (p1).toNat then p3 else zp_n u.2.1 (zp_n u.2.1 (zp_n u.2.1 a 0).toNat 0).toNat (2000 + j))
        rw [htt, htr]
        refine ⟨fun _ => ⟨by omega, fun j => zp_nc hfrr10 qrd rfl (2000 + j)⟩, fun h => by exfalso; omega⟩
      · refine zp_load (pc := 25) hx hb (zd_X11_road (25, .iload_n 3, 1, 0, []) (List.mem_of_getElem? (i := 13) rfl)) rfl (j := 3) rfl ?_
        refine zp_const (pc := 26) hx hb (zd_X11_road (26, .iconst 0, 1, 0, []) (List.mem_of_getElem? (i := 14) rfl)) rfl rfl ?_
        refine zp_const (pc := 27) hx hb (zd_X11_road (27, .bipush 99, 2, 0, []) (List.mem_of_getElem? (i := 15) rfl)) rfl rfl ?_
        refine zp_call (pc := 29) (how := 1) (idx := 107) (mi := 15) (S := []) hx hb hE hw heff hrm (zX_iwn hW) rfl (j := 10) rfl rfl (by decide +kernel) (zd_X11_road (29, .invokestatic 107, 3, 0, []) (List.mem_of_getElem? (i := 16) rfl)) [p3, 0, 99] rfl ⟨zp_o0 (by omega) (by omega) (by omega) (by omega), zp_o0 (by omega) (by omega) (by omega) (by omega), zp_o0 (by omega) (by omega) (by omega) (by omega), trivial⟩ (Nat.le_of_ble_eq_true rfl) trivial (fun al hal rnw11 Pw11 Gw11 hextw11 hfrw11 hokw11 hcsw11 hpsiw11 => ?_)
        obtain rfl := List.mem_singleton.mp hal
        have hrw11 := zp_int (hokw11 _ rfl).1
        obtain ⟨hPew11, hGew11, htw11⟩ := hpsiw11
        have htw11 : rnw11 = 1 ↔ 0 ≤ p3 ∧ p3 ≤ 99 := htw11
        rw [hPew11, hGew11]
        refine zp_if (pc := 32) (tgt := 41) hx hb (zd_X11_road (32, .ifCond .ne 9, 3, 0, []) (List.mem_of_getElem? (i := 17) rfl)) rfl (fun (hc33 : ¬ rnw11 = 0) => ?_) (fun (hc33 : ¬ (¬ rnw11 = 0)) => ?_)
        · obtain ⟨i1, rfl⟩ := zp_nat (show 0 ≤ p1 by omega)
          obtain ⟨i2, rfl⟩ := zp_nat (show 0 ≤ p2 by omega)
          show zp_J p l e R s m args below meth c Q w u [] 41 [(0, 2, (a : Int)), (1, 0, (i1 : Int)), (2, 0, (i2 : Int)), (3, 0, p3)] [] u.1 (zp_n u.2.1)
          refine zp_load (pc := 41) hx hb (zd_X11_road (41, .aload_n 0, 1, 0, []) (List.mem_of_getElem? (i := 22) rfl)) rfl (j := 0) rfl ?_
          refine zp_getf (n := (tn : Int)) (pc := 42) hx hb hE hw (zd_X11_road (42, .getfield 10, 3, 0, []) (List.mem_of_getElem? (i := 23) rfl)) (j := 50) rfl rfl rfl hp htn ?_
          refine zp_getf (n := (rd : Int)) (pc := 45) hx hb hE hw (zd_X11_road (45, .getfield 115, 3, 0, []) (List.mem_of_getElem? (i := 24) rfl)) (j := 9) rfl rfl rfl qtn hrd ?_
          refine zp_load (pc := 48) hx hb (zd_X11_road (48, .iload_n 1, 1, 0, []) (List.mem_of_getElem? (i := 25) rfl)) rfl (j := 1) rfl ?_
          refine zp_const (pc := 49) hx hb (zd_X11_road (49, .bipush 8, 2, 0, []) (List.mem_of_getElem? (i := 26) rfl)) rfl rfl ?_
          refine zp_mul (n := (8 * (i1 : Int))) (pc := 51) hx hb (zd_X11_road (51, .imul, 1, 0, []) (List.mem_of_getElem? (i := 27) rfl)) (by omega) (zp_r0 (by omega) (by omega)) ?_
          refine zp_load (pc := 52) hx hb (zd_X11_road (52, .iload_n 2, 1, 0, []) (List.mem_of_getElem? (i := 28) rfl)) rfl (j := 2) rfl ?_
          refine zp_add (n := (8 * (i1 : Int) + (i2 : Int))) (pc := 53) hx hb (zd_X11_road (53, .iadd, 1, 0, []) (List.mem_of_getElem? (i := 29) rfl)) (by omega) (zp_r0 (by omega) (by omega)) ?_
          refine zp_iald (j := (8 * i1 + i2)) (v := ((zp_n u.2.1) rd (2000 + (8 * i1 + i2)))) (pc := 54) hx hb hw (zd_X11_road (54, .iaload, 1, 0, []) (List.mem_of_getElem? (i := 30) rfl)) (show zp_ia 1 42 = some (64, 0, 0, (-2147483648), 2147483647) from rfl) qrd (by omega) (by omega) rfl (fun hk34 => ?_)
          have hk34b := zp_int hk34
          refine zp_store (L' := [(4, 0, ((zp_n u.2.1) rd (2000 + (8 * i1 + i2)))), (0, 2, (a : Int)), (1, 0, (i1 : Int)), (2, 0, (i2 : Int)), (3, 0, p3)]) (pc := 55) hx hb hnL (zd_X11_road (55, .istore 4, 2, 0, []) (List.mem_of_getElem? (i := 31) rfl)) rfl rfl rfl ?_
          refine zp_load (pc := 57) hx hb (zd_X11_road (57, .aload_n 0, 1, 0, []) (List.mem_of_getElem? (i := 32) rfl)) rfl (j := 1) rfl ?_
          refine zp_getf (n := (tn : Int)) (pc := 58) hx hb hE hw (zd_X11_road (58, .getfield 10, 3, 0, []) (List.mem_of_getElem? (i := 33) rfl)) (j := 50) rfl rfl rfl hp htn ?_
          refine zp_getf (n := (rd : Int)) (pc := 61) hx hb hE hw (zd_X11_road (61, .getfield 115, 3, 0, []) (List.mem_of_getElem? (i := 34) rfl)) (j := 9) rfl rfl rfl qtn hrd ?_
          refine zp_load (pc := 64) hx hb (zd_X11_road (64, .iload_n 1, 1, 0, []) (List.mem_of_getElem? (i := 35) rfl)) rfl (j := 2) rfl ?_
          refine zp_const (pc := 65) hx hb (zd_X11_road (65, .bipush 8, 2, 0, []) (List.mem_of_getElem? (i := 36) rfl)) rfl rfl ?_
          refine zp_mul (n := (8 * (i1 : Int))) (pc := 67) hx hb (zd_X11_road (67, .imul, 1, 0, []) (List.mem_of_getElem? (i := 37) rfl)) (by omega) (zp_r0 (by omega) (by omega)) ?_
          refine zp_load (pc := 68) hx hb (zd_X11_road (68, .iload_n 2, 1, 0, []) (List.mem_of_getElem? (i := 38) rfl)) rfl (j := 3) rfl ?_
          refine zp_add (n := (8 * (i1 : Int) + (i2 : Int))) (pc := 69) hx hb (zd_X11_road (69, .iadd, 1, 0, []) (List.mem_of_getElem? (i := 39) rfl)) (by omega) (zp_r0 (by omega) (by omega)) ?_
          refine zp_load (pc := 70) hx hb (zd_X11_road (70, .iload_n 3, 1, 0, []) (List.mem_of_getElem? (i := 40) rfl)) rfl (j := 4) rfl ?_
          refine zp_iast (j := (8 * i1 + i2)) (pc := 71) hx hb hw heff (zd_X11_road (71, .iastore, 1, 0, []) (List.mem_of_getElem? (i := 41) rfl)) (show zp_ia 1 42 = some (64, 0, 0, (-2147483648), 2147483647) from rfl) qrd (by omega) (by omega) (zp_o0 (by omega) (by omega) (by omega) (by omega)) rfl ?_
          refine zp_load (pc := 72) hx hb (zd_X11_road (72, .aload_n 0, 1, 0, []) (List.mem_of_getElem? (i := 42) rfl)) rfl (j := 1) rfl ?_
          refine zp_getf (n := (tn : Int)) (pc := 73) hx hb hE hw (zd_X11_road (73, .getfield 10, 3, 0, []) (List.mem_of_getElem? (i := 43) rfl)) (j := 50) rfl rfl rfl hp ((zp_set_ne (Or.inl (zp_pne hp qrd (by decide)))).trans (htn)) ?_
          refine zp_getf (n := (rd : Int)) (pc := 76) hx hb hE hw (zd_X11_road (76, .getfield 115, 3, 0, []) (List.mem_of_getElem? (i := 44) rfl)) (j := 9) rfl rfl rfl qtn ((zp_set_ne (Or.inl (zp_pne qtn qrd (by decide)))).trans (hrd)) ?_
          refine zp_load (pc := 79) hx hb (zd_X11_road (79, .iload_n 2, 1, 0, []) (List.mem_of_getElem? (i := 45) rfl)) rfl (j := 3) rfl ?_
          refine zp_const (pc := 80) hx hb (zd_X11_road (80, .bipush 8, 2, 0, []) (List.mem_of_getElem? (i := 46) rfl)) rfl rfl ?_
          refine zp_mul (n := (8 * (i2 : Int))) (pc := 82) hx hb (zd_X11_road (82, .imul, 1, 0, []) (List.mem_of_getElem? (i := 47) rfl)) (by omega) (zp_r0 (by omega) (by omega)) ?_
          refine zp_load (pc := 83) hx hb (zd_X11_road (83, .iload_n 1, 1, 0, []) (List.mem_of_getElem? (i := 48) rfl)) rfl (j := 2) rfl ?_
          refine zp_add (n := (8 * (i2 : Int) + (i1 : Int))) (pc := 84) hx hb (zd_X11_road (84, .iadd, 1, 0, []) (List.mem_of_getElem? (i := 49) rfl)) (by omega) (zp_r0 (by omega) (by omega)) ?_
          refine zp_load (pc := 85) hx hb (zd_X11_road (85, .iload_n 3, 1, 0, []) (List.mem_of_getElem? (i := 50) rfl)) rfl (j := 4) rfl ?_
          refine zp_iast (j := (8 * i2 + i1)) (pc := 86) hx hb hw heff (zd_X11_road (86, .iastore, 1, 0, []) (List.mem_of_getElem? (i := 51) rfl)) (show zp_ia 1 42 = some (64, 0, 0, (-2147483648), 2147483647) from rfl) qrd (by omega) (by omega) (zp_o0 (by omega) (by omega) (by omega) (by omega)) rfl ?_
          refine zp_load (pc := 87) hx hb (zd_X11_road (87, .aload_n 0, 1, 0, []) (List.mem_of_getElem? (i := 52) rfl)) rfl (j := 1) rfl ?_
          refine zp_load (pc := 88) hx hb (zd_X11_road (88, .iload 4, 2, 0, []) (List.mem_of_getElem? (i := 53) rfl)) rfl (j := 0) rfl ?_
          refine zp_call (pc := 90) (how := 0) (idx := 118) (mi := 17) (S := []) hx hb hE hw heff hrm (zX_awd hW) rfl (j := 12) rfl rfl (by decide +kernel) (zd_X11_road (90, .invokevirtual 118, 3, 0, []) (List.mem_of_getElem? (i := 54) rfl)) [(a : Int), ((zp_n u.2.1) rd (2000 + (8 * i1 + i2)))] rfl ⟨zp_o2 hp, zp_o0 (by omega) (by omega) (by omega) (by omega), trivial⟩ (Nat.le_of_ble_eq_true rfl) trivial (fun al hal rns12 Ps12 Gs12 hexts12 hfrs12 hoks12 hcss12 hpsis12 => ?_)
          obtain rfl := List.mem_singleton.mp hal
          have hrs12 := zp_int (hoks12 _ rfl).1
          have yas12 := hexts12 _ _ hp
          have ytns12 := hexts12 _ _ qtn
          have yrds12 := hexts12 _ _ qrd
          have hts12 : rns12 = ((zp_n u.2.1) rd (2000 + (8 * i1 + i2))) := hpsis12
          refine zp_iret (pc := 93) (n := rns12) hx hb hE hQ hU5 rfl (by decide) (zd_X11_road (93, .ireturn, 1, 0, []) (List.mem_of_getElem? (i := 55) rfl)) (j := 0) rfl (zp_o0 (by omega) (by omega) (by omega) (by omega)) ?_
          rw [hps]
          show (¬ (0 ≤ (i1 : Int) ∧ (i1 : Int) ≤ 7 ∧ 0 ≤ (i2 : Int) ∧ (i2 : Int) ≤ 7 ∧ ¬ (i1 : Int) = (i2 : Int) ∧ 0 ≤ p3 ∧ p3 ≤ 99) → rns12 = -1 ∧ ∀ j : Nat, Gs12 (zp_n u.2.1 (zp_n u.2.1 a 0).toNat 0).toNat (2000 + j) = zp_n u.2.1 (zp_n u.2.1 (zp_n u.2.1 a 0).toNat 0).toNat (2000 + j)) ∧ ((0 ≤ (i1 : Int) ∧ (i1 : Int) ≤ 7 ∧ 0 ≤ (i2 : Int) ∧ (i2 : Int) ≤ 7 ∧ ¬ (i1 : Int) = (i2 : Int) ∧ 0 ≤ p3 ∧ p3 ≤ 99) → rns12 = zp_n u.2.1 (zp_n u.2.1 (zp_n u.2.1 a 0).toNat 0).toNat (2000 + (8 * ((i1 : Int)).toNat + ((i2 : Int)).toNat)) ∧ ∀ j : Nat, Gs12 (zp_n u.2.1 (zp_n u.2.1 a 0).toNat 0).toNat (2000 + j) = if j = 8 * ((i1 : Int)).toNat + ((i2 : Int)).toNat ∨ j = 8 * ((i2 : Int)).toNat + ((i1 : Int)).toNat then p3 else zp_n u.2.1 (zp_n u.2.1 (zp_n u.2.1 a 0).toNat 0).toNat (2000 + j))
          rw [htt, htr]
          refine ⟨fun h => absurd (by omega) h, fun _ => ⟨?_, fun j => ?_⟩⟩
          · rw [Int.toNat_natCast, Int.toNat_natCast]
            omega
          · rw [Int.toNat_natCast, Int.toNat_natCast, zp_nc hfrs12 qrd rfl (2000 + j)]
            rw [zp_set_el, zp_set_el]
            by_cases h1 : j = 8 * i2 + i1
            · rw [if_pos h1, if_pos (Or.inr h1)]
            · rw [if_neg h1]
              by_cases h2 : j = 8 * i1 + i2
              · rw [if_pos h2, if_pos (Or.inl h2)]
              · rw [if_neg h2, if_neg (fun z => by omega)]
        · refine zp_load (pc := 35) hx hb (zd_X11_road (35, .aload_n 0, 1, 0, []) (List.mem_of_getElem? (i := 18) rfl)) rfl (j := 0) rfl ?_
          refine zp_const (pc := 36) hx hb (zd_X11_road (36, .iconst (-1), 1, 0, []) (List.mem_of_getElem? (i := 19) rfl)) rfl rfl ?_
          refine zp_call (pc := 37) (how := 0) (idx := 111) (mi := 16) (S := []) hx hb hE hw heff hrm (zX_rfd hW) rfl (j := 11) rfl rfl (by decide +kernel) (zd_X11_road (37, .invokevirtual 111, 3, 0, []) (List.mem_of_getElem? (i := 20) rfl)) [(a : Int), (-1)] rfl ⟨zp_o2 hp, zp_o0 (by decide) (by decide) (by decide) (by decide), trivial⟩ (Nat.le_of_ble_eq_true rfl) trivial (fun al hal rnr13 Pr13 Gr13 hextr13 hfrr13 hokr13 hcsr13 hpsir13 => ?_)
          obtain rfl := List.mem_singleton.mp hal
          have hrr13 := zp_int (hokr13 _ rfl).1
          have yar13 := hextr13 _ _ hp
          have ytnr13 := hextr13 _ _ qtn
          have yrdr13 := hextr13 _ _ qrd
          have htr13 : rnr13 = (-1) := hpsir13
          refine zp_iret (pc := 40) (n := rnr13) hx hb hE hQ hU5 rfl (by decide) (zd_X11_road (40, .ireturn, 1, 0, []) (List.mem_of_getElem? (i := 21) rfl)) (j := 0) rfl (zp_o0 (by omega) (by omega) (by omega) (by omega)) ?_
          rw [hps]
          show (¬ (0 ≤ p1 ∧ p1 ≤ 7 ∧ 0 ≤ p2 ∧ p2 ≤ 7 ∧ ¬ p1 = p2 ∧ 0 ≤ p3 ∧ p3 ≤ 99) → rnr13 = -1 ∧ ∀ j : Nat, Gr13 (zp_n u.2.1 (zp_n u.2.1 a 0).toNat 0).toNat (2000 + j) = zp_n u.2.1 (zp_n u.2.1 (zp_n u.2.1 a 0).toNat 0).toNat (2000 + j)) ∧ ((0 ≤ p1 ∧ p1 ≤ 7 ∧ 0 ≤ p2 ∧ p2 ≤ 7 ∧ ¬ p1 = p2 ∧ 0 ≤ p3 ∧ p3 ≤ 99) → rnr13 = zp_n u.2.1 (zp_n u.2.1 (zp_n u.2.1 a 0).toNat 0).toNat (2000 + (8 * (p1).toNat + (p2).toNat)) ∧ ∀ j : Nat, Gr13 (zp_n u.2.1 (zp_n u.2.1 a 0).toNat 0).toNat (2000 + j) = if j = 8 * (p1).toNat + (p2).toNat ∨ j = 8 * (p2).toNat + (p1).toNat then p3 else zp_n u.2.1 (zp_n u.2.1 (zp_n u.2.1 a 0).toNat 0).toNat (2000 + j))
          rw [htt, htr]
          refine ⟨fun _ => ⟨by omega, fun j => zp_nc hfrr13 qrd rfl (2000 + j)⟩, fun h => by exfalso; omega⟩
def zK_ons : zk_K := (zt_mn 270, prog_14_method_5_code, 3, (Option.some Jvm.ClassFile.FieldType.int), 0, 12, [(0, 0, 0, 255)], [(some (0, 0, 0, 10), [])], [], (0, 0, 0, 0))
def zψ_ons : (Nat → Option Nat) → (Nat → Nat → Int) → List Int → (Nat → Option Nat) → (Nat → Nat → Int) → Int → Prop := fun P G ps P' G' rn => P' = P ∧ G' = G ∧ rn = zon (ps.getD 0 0).toNat 10
theorem zX_ons {l : Launch} {w : zk_W} (hW : zh_W w) : zk_metX l w zt_dv zt_TB zK_ons (zp_A zp_tA) (zp_B zψ_ons) ∧ zk_cok w zt_TB zK_ons := by
  refine zp_methX (cn := "WoundTownModel") zp_lkall hW (pl := 1933) rfl (by decide +kernel) (fun p e R s m args below meth c Q u hx hb hE hQ hU5 heff hnL hok hφ => ?_)
  have hw := hW.1
  obtain ⟨p0, hps, k0⟩ := zp_ps1 hok
  have hrm : zk_Kr (zk_ev (zt_types, zp_lk, zt_dv, [], [], zp_lc, zK_ons)) = zk_Kr zK_ons := rfl
  rw [hps] at hφ ⊢
  have hi0 := zp_int k0
  show zp_J p l e R s m args below meth c Q w u [] 0 [(0, 0, p0)] [] u.1 (zp_n u.2.1)
  obtain ⟨s0, rfl⟩ := zp_nat hi0.1
  have hs : s0 < 256 := by omega
  show zp_J p l e R s m args below meth c Q w u [] 0 [(0, 0, (s0 : Int))] [] u.1 (zp_n u.2.1)
  have loop : ∀ (n k : Nat), 11 - k < n → k ≤ 10 → zp_J p l e R s m args below meth c Q w u [] 4 [(2, 0, (k : Int)), (1, 0, (zon s0 k)), (0, 0, (s0 : Int))] [] u.1 (zp_n u.2.1) := by
    intro n
    induction n with
    | zero => intro k h; exact absurd h (Nat.not_lt_zero _)
    | succ n ih =>
      intro k hn hk
      have hzk := zon_le hs k hk
      refine zp_load (pc := 4) hx hb (zd_X12_ones (4, .iload_n 2, 1, 0, []) (List.mem_of_getElem? (i := 4) rfl)) rfl (j := 0) rfl ?_
      refine zp_const (pc := 5) hx hb (zd_X12_ones (5, .bipush 10, 2, 0, []) (List.mem_of_getElem? (i := 5) rfl)) rfl rfl ?_
      refine zp_icmp (pc := 7) (tgt := 24) hx hb (zd_X12_ones (7, .if_icmp .ge 17, 3, 0, []) (List.mem_of_getElem? (i := 6) rfl)) rfl (fun (hc35 : 10 ≤ (k : Int)) => ?_) (fun (hc35 : ¬ (10 ≤ (k : Int))) => ?_)
      · refine zp_load (pc := 24) hx hb (zd_X12_ones (24, .iload_n 1, 1, 0, []) (List.mem_of_getElem? (i := 17) rfl)) rfl (j := 1) rfl ?_
        refine zp_iret (pc := 25) (n := (zon s0 k)) hx hb hE hQ hU5 rfl (by decide) (zd_X12_ones (25, .ireturn, 1, 0, []) (List.mem_of_getElem? (i := 18) rfl)) (j := 0) rfl (zp_o0 (by omega) (by omega) (by omega) (by omega)) ?_
        rw [hps]
        refine ⟨rfl, rfl, ?_⟩
        show zon s0 k = zon s0 10
        rw [show k = 10 by omega]
      · refine zp_load (pc := 10) hx hb (zd_X12_ones (10, .iload_n 1, 1, 0, []) (List.mem_of_getElem? (i := 7) rfl)) rfl (j := 1) rfl ?_
        refine zp_load (pc := 11) hx hb (zd_X12_ones (11, .iload_n 0, 1, 0, []) (List.mem_of_getElem? (i := 8) rfl)) rfl (j := 2) rfl ?_
        refine zp_load (pc := 12) hx hb (zd_X12_ones (12, .iload_n 2, 1, 0, []) (List.mem_of_getElem? (i := 9) rfl)) rfl (j := 0) rfl ?_
        refine zp_binx (o := 7) (n := (zB 7 (s0 : Int) (k : Int))) (pc := 13) hx hb (zd_X12_ones (13, .ishr, 1, 0, []) (List.mem_of_getElem? (i := 10) rfl)) rfl (by decide) rfl ?_
        refine zp_const (pc := 14) hx hb (zd_X12_ones (14, .iconst 1, 1, 0, []) (List.mem_of_getElem? (i := 11) rfl)) rfl rfl ?_
        refine zp_binx (o := 3) (n := (zB 3 (zB 7 (s0 : Int) (k : Int)) 1)) (pc := 15) hx hb (zd_X12_ones (15, .iand, 1, 0, []) (List.mem_of_getElem? (i := 12) rfl)) rfl (by decide) rfl ?_
        have hbt := zg_bit s0 hs k (by omega)
        refine zp_add (n := ((zon s0 k) + (zB 3 (zB 7 (s0 : Int) (k : Int)) 1))) (pc := 16) hx hb (zd_X12_ones (16, .iadd, 1, 0, []) (List.mem_of_getElem? (i := 13) rfl)) (by omega) (zp_r0 (by omega) (by omega)) ?_
        refine zp_store (L' := [(1, 0, ((zon s0 k) + (zB 3 (zB 7 (s0 : Int) (k : Int)) 1))), (2, 0, (k : Int)), (0, 0, (s0 : Int))]) (pc := 17) hx hb hnL (zd_X12_ones (17, .istore_n 1, 1, 0, []) (List.mem_of_getElem? (i := 14) rfl)) rfl rfl rfl ?_
        refine zp_iinc (L' := [(2, 0, ((k : Int) + 1)), (1, 0, ((zon s0 k) + (zB 3 (zB 7 (s0 : Int) (k : Int)) 1))), (0, 0, (s0 : Int))]) (n := ((k : Int) + 1)) (pc := 18) hx hb hnL (zd_X12_ones (18, .iinc 2 1, 3, 0, []) (List.mem_of_getElem? (i := 15) rfl)) (j := 1) rfl (by omega) (zp_r0 (by omega) (by omega)) rfl rfl ?_
        refine zp_goto (tgt := 4) (pc := 21) hx hb (zd_X12_ones (21, .goto (-17), 3, 0, []) (List.mem_of_getElem? (i := 16) rfl)) rfl ?_
        refine zp_drop (L' := [(2, 0, ((k + 1 : Nat) : Int)), (1, 0, (zon s0 (k + 1))), (0, 0, (s0 : Int))]) (by simp <;> first | omega | rfl) ?_
        exact ih (k + 1) (by omega) (by omega)
  refine zp_const (pc := 0) hx hb (zd_X12_ones (0, .iconst 0, 1, 0, []) (List.mem_of_getElem? (i := 0) rfl)) rfl rfl ?_
  refine zp_store (L' := [(1, 0, 0), (0, 0, (s0 : Int))]) (pc := 1) hx hb hnL (zd_X12_ones (1, .istore_n 1, 1, 0, []) (List.mem_of_getElem? (i := 1) rfl)) rfl rfl rfl ?_
  refine zp_const (pc := 2) hx hb (zd_X12_ones (2, .iconst 0, 1, 0, []) (List.mem_of_getElem? (i := 2) rfl)) rfl rfl ?_
  refine zp_store (L' := [(2, 0, 0), (1, 0, 0), (0, 0, (s0 : Int))]) (pc := 3) hx hb hnL (zd_X12_ones (3, .istore_n 2, 1, 0, []) (List.mem_of_getElem? (i := 3) rfl)) rfl rfl rfl ?_
  exact loop 12 0 (by omega) (by omega)
def zK_isx : zk_K := (zt_mn 258, prog_14_method_4_code, 2, (Option.some Jvm.ClassFile.FieldType.boolean), 0, 12, [(0, 0, 0, 255), (0, 0, 0, 7)], [(some (0, 0, 0, 1), [])], [], (0, 0, 0, 0))
def zψ_isx : (Nat → Option Nat) → (Nat → Nat → Int) → List Int → (Nat → Option Nat) → (Nat → Nat → Int) → Int → Prop := fun P G ps P' G' rn => P' = P ∧ G' = G ∧ (rn = 1 ↔ zgi (ps.getD 0 0).toNat (ps.getD 1 0).toNat = true)
theorem zX_isx {l : Launch} {w : zk_W} (hW : zh_W w) : zk_metX l w zt_dv zt_TB zK_isx (zp_A zp_tA) (zp_B zψ_isx) ∧ zk_cok w zt_TB zK_isx := by
  refine zp_methX (cn := "WoundTownModel") zp_lkall hW (pl := 1884) rfl (by decide +kernel) (fun p e R s m args below meth c Q u hx hb hE hQ hU5 heff hnL hok hφ => ?_)
  have hw := hW.1
  obtain ⟨p0, p1, hps, k0, k1⟩ := zp_ps2 hok
  have hrm : zk_Kr (zk_ev (zt_types, zp_lk, zt_dv, [], [], zp_lc, zK_isx)) = zk_Kr zK_isx := rfl
  rw [hps] at hφ ⊢
  have hi0 := zp_int k0
  have hi1 := zp_int k1
  show zp_J p l e R s m args below meth c Q w u [] 0 [(0, 0, p0), (1, 0, p1)] [] u.1 (zp_n u.2.1)
  obtain ⟨s0, rfl⟩ := zp_nat hi0.1
  obtain ⟨k, rfl⟩ := zp_nat hi1.1
  show zp_J p l e R s m args below meth c Q w u [] 0 [(0, 0, (s0 : Int)), (1, 0, (k : Int))] [] u.1 (zp_n u.2.1)
  refine zp_load (pc := 0) hx hb (zd_X12_is (0, .iload_n 0, 1, 0, []) (List.mem_of_getElem? (i := 0) rfl)) rfl (j := 0) rfl ?_
  refine zp_load (pc := 1) hx hb (zd_X12_is (1, .iload_n 1, 1, 0, []) (List.mem_of_getElem? (i := 1) rfl)) rfl (j := 1) rfl ?_
  refine zp_binx (o := 7) (n := (zB 7 (s0 : Int) (k : Int))) (pc := 2) hx hb (zd_X12_is (2, .ishr, 1, 0, []) (List.mem_of_getElem? (i := 2) rfl)) rfl (by decide) rfl ?_
  refine zp_const (pc := 3) hx hb (zd_X12_is (3, .iconst 1, 1, 0, []) (List.mem_of_getElem? (i := 3) rfl)) rfl rfl ?_
  refine zp_binx (o := 3) (n := (zB 3 (zB 7 (s0 : Int) (k : Int)) 1)) (pc := 4) hx hb (zd_X12_is (4, .iand, 1, 0, []) (List.mem_of_getElem? (i := 4) rfl)) rfl (by decide) rfl ?_
  refine zp_const (pc := 5) hx hb (zd_X12_is (5, .iconst 1, 1, 0, []) (List.mem_of_getElem? (i := 5) rfl)) rfl rfl ?_
  refine zp_icmp (pc := 6) (tgt := 13) hx hb (zd_X12_is (6, .if_icmp .ne 7, 3, 0, []) (List.mem_of_getElem? (i := 6) rfl)) rfl (fun (hc36 : ¬ (zB 3 (zB 7 (s0 : Int) (k : Int)) 1) = 1) => ?_) (fun (hc36 : ¬ (¬ (zB 3 (zB 7 (s0 : Int) (k : Int)) 1) = 1)) => ?_)
  · refine zp_const (pc := 13) hx hb (zd_X12_is (13, .iconst 0, 1, 0, []) (List.mem_of_getElem? (i := 9) rfl)) rfl rfl ?_
    refine zp_zret (pc := 14) (n := 0) hx hb hE hQ hU5 rfl (by decide) (zd_X12_is (14, .ireturn, 1, 0, []) (List.mem_of_getElem? (i := 10) rfl)) (j := 0) rfl (zp_o0 (by omega) (by omega) (by omega) (by omega)) ?_
    rw [hps]
    refine ⟨rfl, rfl, ?_⟩
    show (0 = 1 ↔ zgi s0 k = true)
    unfold zgi
    rw [decide_eq_true_eq]
    omega
  · refine zp_const (pc := 9) hx hb (zd_X12_is (9, .iconst 1, 1, 0, []) (List.mem_of_getElem? (i := 7) rfl)) rfl rfl ?_
    refine zp_goto (tgt := 14) (pc := 10) hx hb (zd_X12_is (10, .goto 4, 3, 0, []) (List.mem_of_getElem? (i := 8) rfl)) rfl ?_
    refine zp_zret (pc := 14) (n := 1) hx hb hE hQ hU5 rfl (by decide) (zd_X12_is (14, .ireturn, 1, 0, []) (List.mem_of_getElem? (i := 10) rfl)) (j := 0) rfl (zp_o0 (by omega) (by omega) (by omega) (by omega)) ?_
    rw [hps]
    refine ⟨rfl, rfl, ?_⟩
    show (1 = 1 ↔ zgi s0 k = true)
    unfold zgi
    rw [decide_eq_true_eq]
    omega
def zK_chr : zk_K := (zt_mn 190, prog_14_method_8_code, 4, (Option.some Jvm.ClassFile.FieldType.int), 1, 12, [(2, 13, 0, 0), (0, 0, 89, 152), (0, 0, (-2147483648), 2147483647)], [(some (0, 0, (-2147483648), 2147483647), [])], [(13, 1, 0), (59, 25936, 0)], (0, 0, 0, 0))
def zψ_chr : (Nat → Option Nat) → (Nat → Nat → Int) → List Int → (Nat → Option Nat) → (Nat → Nat → Int) → Int → Prop := fun P G ps P' G' rn => P' = P ∧ rn = G (G (zp_0 ps) 3).toNat (2000 + (ps.getD 1 0).toNat) ∧ ∀ j, G' (G (zp_0 ps) 3).toNat (2000 + j) = if j = (ps.getD 1 0).toNat then ps.getD 2 0 else G (G (zp_0 ps) 3).toNat (2000 + j)
theorem zX_chr {l : Launch} {w : zk_W} (hW : zh_W w) : zk_metX l w zt_dv zt_TB zK_chr (zp_A zp_tA) (zp_B zψ_chr) ∧ zk_cok w zt_TB zK_chr := by
  refine zp_methX (cn := "WoundTownModel") zp_lkall hW (pl := 1590) rfl (by decide +kernel) (fun p e R s m args below meth c Q u hx hb hE hQ hU5 heff hnL hok hφ => ?_)
  have hw := hW.1
  obtain ⟨p0, p1, p2, hps, k0, k1, k2⟩ := zp_ps3 hok
  obtain ⟨a, rfl, hp⟩ := zp_this k0
  have hrm : zk_Kr (zk_ev (zt_types, zp_lk, zt_dv, [], [], zp_lc, zK_chr)) = zk_Kr zK_chr := rfl
  rw [hps] at hφ ⊢
  have hi1 := zp_int k1
  have hi2 := zp_int k2
  show zp_J p l e R s m args below meth c Q w u [] 0 [(0, 2, (a : Int)), (1, 0, p1), (2, 0, p2)] [] u.1 (zp_n u.2.1)
  refine zp_kn (k := 3) (a := a) hw (show zp_fd 13 3 = some (12, 2, 59, 0, 0) from rfl) rfl hp (fun hkrw_ => ?_)
  obtain ⟨rw_, hrw_, qrw_⟩ := zp_this hkrw_
  have qrw : u.1 rw_ = some 59 := qrw_
  have hrt : (zp_n u.2.1 a 3).toNat = rw_ := by rw [hrw_, Int.toNat_natCast]
  obtain ⟨i1, rfl⟩ := zp_nat (show 0 ≤ p1 by omega)
  show zp_J p l e R s m args below meth c Q w u [] 0 [(0, 2, (a : Int)), (1, 0, (i1 : Int)), (2, 0, p2)] [] u.1 (zp_n u.2.1)
  refine zp_load (pc := 0) hx hb (zd_X12_change (0, .aload_n 0, 1, 0, []) (List.mem_of_getElem? (i := 0) rfl)) rfl (j := 0) rfl ?_
  refine zp_getf (n := (rw_ : Int)) (pc := 1) hx hb hE hw (zd_X12_change (1, .getfield 13, 3, 0, []) (List.mem_of_getElem? (i := 1) rfl)) (j := 21) rfl rfl rfl hp hrw_ ?_
  refine zp_load (pc := 4) hx hb (zd_X12_change (4, .iload_n 1, 1, 0, []) (List.mem_of_getElem? (i := 2) rfl)) rfl (j := 1) rfl ?_
  refine zp_ialdT (j := i1) (v := ((zp_n u.2.1) rw_ (2000 + i1))) (pc := 5) hx hb hw (zd_X12_change (5, .iaload, 1, 0, []) (List.mem_of_getElem? (i := 3) rfl)) zl_T59 rfl (zl_kd (i1)) qrw_ (by omega) (show i1 < 5580 by omega) rfl (fun hk37 => ?_)
  have hk37b := zp_int (zr_ld (lo := (-2147483648)) (hi := 2147483647) (zr_rd i1 (by omega) (by omega)) hk37)
  refine zp_store (L' := [(3, 0, ((zp_n u.2.1) rw_ (2000 + i1))), (0, 2, (a : Int)), (1, 0, (i1 : Int)), (2, 0, p2)]) (pc := 6) hx hb hnL (zd_X12_change (6, .istore_n 3, 1, 0, []) (List.mem_of_getElem? (i := 4) rfl)) rfl rfl rfl ?_
  refine zp_load (pc := 7) hx hb (zd_X12_change (7, .aload_n 0, 1, 0, []) (List.mem_of_getElem? (i := 5) rfl)) rfl (j := 1) rfl ?_
  refine zp_getf (n := (rw_ : Int)) (pc := 8) hx hb hE hw (zd_X12_change (8, .getfield 13, 3, 0, []) (List.mem_of_getElem? (i := 6) rfl)) (j := 21) rfl rfl rfl hp hrw_ ?_
  refine zp_load (pc := 11) hx hb (zd_X12_change (11, .iload_n 1, 1, 0, []) (List.mem_of_getElem? (i := 7) rfl)) rfl (j := 2) rfl ?_
  refine zp_load (pc := 12) hx hb (zd_X12_change (12, .iload_n 2, 1, 0, []) (List.mem_of_getElem? (i := 8) rfl)) rfl (j := 3) rfl ?_
  refine zp_iastR (j := i1) (pc := 13) hx hb hw heff (zd_X12_change (13, .iastore, 1, 0, []) (List.mem_of_getElem? (i := 9) rfl)) qrw_ (by omega) (by omega) (zr_st (lo := (-2147483648)) (hi := 2147483647) (zr_rd i1 (by omega) (by omega)) (by omega) (by omega) (by omega) (by omega)) ⟨25936, rfl, zr_pm (lo := 89) (hi := 152) (by omega) (by omega) (by decide) (by decide)⟩ ?_
  refine zp_load (pc := 14) hx hb (zd_X12_change (14, .aload_n 0, 1, 0, []) (List.mem_of_getElem? (i := 10) rfl)) rfl (j := 1) rfl ?_
  refine zp_const (pc := 15) hx hb (zd_X12_change (15, .iconst 0, 1, 0, []) (List.mem_of_getElem? (i := 11) rfl)) rfl rfl ?_
  refine zp_putf (pc := 16) hx hb hE hw heff (zd_X12_change (16, .putfield 164, 3, 0, []) (List.mem_of_getElem? (i := 12) rfl)) (j := 19) rfl rfl rfl hp (zp_o0 (by decide) (by decide) (by decide) (by decide)) ?_
  refine zp_load (pc := 19) hx hb (zd_X12_change (19, .iload_n 3, 1, 0, []) (List.mem_of_getElem? (i := 13) rfl)) rfl (j := 0) rfl ?_
  refine zp_iret (pc := 20) (n := ((zp_n u.2.1) rw_ (2000 + i1))) hx hb hE hQ hU5 rfl (by decide) (zd_X12_change (20, .ireturn, 1, 0, []) (List.mem_of_getElem? (i := 14) rfl)) (j := 0) rfl (zp_o0 (by omega) (by omega) (by omega) (by omega)) ?_
  rw [hps]
  refine ⟨rfl, ?_, fun j => ?_⟩
  · show ((zp_n u.2.1) rw_ (2000 + i1)) = zp_n u.2.1 (zp_n u.2.1 a 3).toNat (2000 + ((i1 : Int)).toNat)
    rw [hrt, Int.toNat_natCast]
  · show (zp_set (zp_set (zp_n u.2.1) rw_ (2000 + i1) p2) a 1 0) (zp_n u.2.1 a 3).toNat (2000 + j) = if j = ((i1 : Int)).toNat then p2 else zp_n u.2.1 (zp_n u.2.1 a 3).toNat (2000 + j)
    rw [hrt, Int.toNat_natCast, zp_set_ne (Or.inl (zp_pne qrw hp (by decide))), zp_set_el]
def zK_mrd : zk_K := (zt_mn 189, prog_14_method_22_code, 4, (Option.some Jvm.ClassFile.FieldType.int), 1, 12, [(2, 13, 0, 0), (0, 0, (-2147483648), 2147483647), (0, 0, (-2147483648), 2147483647), (0, 0, (-2147483648), 2147483647)], [(some (0, 0, (-2147483648), 2147483647), [])], [(13, 0, 0), (13, 1, 0), (58, 1001, 0), (59, 25936, 0)], (1, 40, 0, 0))
def zψ_mrd : (Nat → Option Nat) → (Nat → Nat → Int) → List Int → (Nat → Option Nat) → (Nat → Nat → Int) → Int → Prop := fun P G ps P' G' rn => (¬ (0 ≤ (ps.getD 1 0) ∧ (ps.getD 1 0) ≤ 7 ∧ 0 ≤ (ps.getD 2 0) ∧ (ps.getD 2 0) ≤ 7 ∧ ¬ (ps.getD 1 0) = (ps.getD 2 0) ∧ 0 ≤ (ps.getD 3 0) ∧ (ps.getD 3 0) ≤ 99) → rn = -1 ∧ ∀ j : Nat, G' (G (zp_0 ps) 3).toNat (2000 + (j + 89)) = G (G (zp_0 ps) 3).toNat (2000 + (j + 89))) ∧ ((0 ≤ (ps.getD 1 0) ∧ (ps.getD 1 0) ≤ 7 ∧ 0 ≤ (ps.getD 2 0) ∧ (ps.getD 2 0) ≤ 7 ∧ ¬ (ps.getD 1 0) = (ps.getD 2 0) ∧ 0 ≤ (ps.getD 3 0) ∧ (ps.getD 3 0) ≤ 99) → rn = G (G (zp_0 ps) 3).toNat (2000 + (89 + (8 * ((ps.getD 1 0)).toNat + ((ps.getD 2 0)).toNat))) ∧ ∀ j : Nat, G' (G (zp_0 ps) 3).toNat (2000 + (j + 89)) = if j = 8 * ((ps.getD 1 0)).toNat + ((ps.getD 2 0)).toNat ∨ j = 8 * ((ps.getD 2 0)).toNat + ((ps.getD 1 0)).toNat then (ps.getD 3 0) else G (G (zp_0 ps) 3).toNat (2000 + (j + 89)))
theorem zX_mrd {l : Launch} {w : zk_W} (hW : zh_W w) : zk_metX l w zt_dv zt_TB zK_mrd (zp_A zp_tA) (zp_B zψ_mrd) ∧ zk_cok w zt_TB zK_mrd := by
  refine zp_methX (cn := "WoundTownModel") zp_lkall hW (pl := 1584) rfl (by decide +kernel) (fun p e R s m args below meth c Q u hx hb hE hQ hU5 heff hnL hok hφ => ?_)
  have hw := hW.1
  obtain ⟨p0, p1, p2, p3, hps, k0, k1, k2, k3⟩ := zp_ps4 hok
  obtain ⟨a, rfl, hp⟩ := zp_this k0
  have hrm : zk_Kr (zk_ev (zt_types, zp_lk, zt_dv, [], [], zp_lc, zK_mrd)) = zk_Kr zK_mrd := rfl
  rw [hps] at hφ ⊢
  have hi1 := zp_int k1
  have hi2 := zp_int k2
  have hi3 := zp_int k3
  show zp_J p l e R s m args below meth c Q w u [] 0 [(0, 2, (a : Int)), (1, 0, p1), (2, 0, p2), (3, 0, p3)] [] u.1 (zp_n u.2.1)
  refine zp_kn (k := 3) (a := a) hw (show zp_fd 13 3 = some (12, 2, 59, 0, 0) from rfl) rfl hp (fun hkrw_ => ?_)
  obtain ⟨rw_, hrw_, qrw_⟩ := zp_this hkrw_
  have qrw : u.1 rw_ = some 59 := qrw_
  have hrt : (zp_n u.2.1 a 3).toNat = rw_ := by rw [hrw_, Int.toNat_natCast]
  refine zp_load (pc := 0) hx hb (zd_X12_road (0, .aload_n 0, 1, 0, []) (List.mem_of_getElem? (i := 0) rfl)) rfl (j := 0) rfl ?_
  refine zp_const (pc := 1) hx hb (zd_X12_road (1, .iconst 0, 1, 0, []) (List.mem_of_getElem? (i := 1) rfl)) rfl rfl ?_
  refine zp_putf (pc := 2) hx hb hE hw heff (zd_X12_road (2, .putfield 161, 3, 0, []) (List.mem_of_getElem? (i := 2) rfl)) (j := 18) rfl rfl rfl hp (zp_o0 (by decide) (by decide) (by decide) (by decide)) ?_
  refine zp_load (pc := 5) hx hb (zd_X12_road (5, .iload_n 1, 1, 0, []) (List.mem_of_getElem? (i := 3) rfl)) rfl (j := 1) rfl ?_
  refine zp_i2l (pc := 6) hx hb (zd_X12_road (6, .i2l, 1, 0, []) (List.mem_of_getElem? (i := 4) rfl)) ?_
  refine zp_const (pc := 7) hx hb (zd_X12_road (7, .lconst 0, 1, 0, []) (List.mem_of_getElem? (i := 5) rfl)) rfl rfl ?_
  refine zp_ldc2 (pc := 8) hx hb hE (zd_X12_road (8, .ldc2_w 192, 3, 0, []) (List.mem_of_getElem? (i := 6) rfl)) (j := 82) rfl ?_
  refine zp_call (pc := 11) (how := 1) (idx := 181) (mi := 186) (S := []) hx hb hE hw heff hrm (zX_in2 hW) rfl (j := 2) rfl rfl (by decide +kernel) (zd_X12_road (11, .invokestatic 181, 3, 0, []) (List.mem_of_getElem? (i := 7) rfl)) [p1, 0, 7] rfl ⟨zp_o1 (zp_r1 (by omega) (by omega)), zp_o1 (zp_r1 (by omega) (by omega)), zp_o1 (zp_r1 (by omega) (by omega)), trivial⟩ (Nat.le_of_ble_eq_true rfl) trivial (fun al hal rnw14 Pw14 Gw14 hextw14 hfrw14 hokw14 hcsw14 hpsiw14 => ?_)
  obtain rfl := List.mem_singleton.mp hal
  have hrw14 := zp_int (hokw14 _ rfl).1
  obtain ⟨hPew14, hGew14, htw14⟩ := hpsiw14
  have htw14 : rnw14 = 1 ↔ 0 ≤ p1 ∧ p1 ≤ 7 := htw14
  rw [hPew14, hGew14]
  refine zp_if (pc := 14) (tgt := 46) hx hb (zd_X12_road (14, .ifCond .eq 32, 3, 0, []) (List.mem_of_getElem? (i := 8) rfl)) rfl (fun (hc38 : rnw14 = 0) => ?_) (fun (hc38 : ¬ (rnw14 = 0)) => ?_)
  · refine zp_load (pc := 46) hx hb (zd_X12_road (46, .aload_n 0, 1, 0, []) (List.mem_of_getElem? (i := 24) rfl)) rfl (j := 0) rfl ?_
    refine zp_const (pc := 47) hx hb (zd_X12_road (47, .iconst (-1), 1, 0, []) (List.mem_of_getElem? (i := 25) rfl)) rfl rfl ?_
    refine zp_call (pc := 48) (how := 0) (idx := 170) (mi := 183) (S := []) hx hb hE hw heff hrm (zX_te13 hW) rfl (j := 0) rfl rfl (by decide +kernel) (zd_X12_road (48, .invokevirtual 170, 3, 0, []) (List.mem_of_getElem? (i := 26) rfl)) [(a : Int), (-1)] rfl ⟨zp_o2 hp, zp_o0 (by omega) (by omega) (by omega) (by omega), trivial⟩ (Nat.le_of_ble_eq_true rfl) trivial (fun al hal rnr15 Pr15 Gr15 hextr15 hfrr15 hokr15 hcsr15 hpsir15 => ?_)
    obtain rfl := List.mem_singleton.mp hal
    have hrr15 := zp_int (hokr15 _ rfl).1
    have yar15 := hextr15 _ _ hp
    have yrw_r15 := hextr15 _ _ qrw_
    have htr15 : rnr15 = (-1) := hpsir15.2
    refine zp_iret (pc := 51) (n := rnr15) hx hb hE hQ hU5 rfl (by decide) (zd_X12_road (51, .ireturn, 1, 0, []) (List.mem_of_getElem? (i := 27) rfl)) (j := 0) rfl (zp_o0 (by omega) (by omega) (by omega) (by omega)) ?_
    rw [hps]
    show (¬ (0 ≤ p1 ∧ p1 ≤ 7 ∧ 0 ≤ p2 ∧ p2 ≤ 7 ∧ ¬ p1 = p2 ∧ 0 ≤ p3 ∧ p3 ≤ 99) → rnr15 = -1 ∧ ∀ j : Nat, Gr15 (zp_n u.2.1 a 3).toNat (2000 + (j + 89)) = zp_n u.2.1 (zp_n u.2.1 a 3).toNat (2000 + (j + 89))) ∧ ((0 ≤ p1 ∧ p1 ≤ 7 ∧ 0 ≤ p2 ∧ p2 ≤ 7 ∧ ¬ p1 = p2 ∧ 0 ≤ p3 ∧ p3 ≤ 99) → rnr15 = zp_n u.2.1 (zp_n u.2.1 a 3).toNat (2000 + (89 + (8 * (p1).toNat + (p2).toNat))) ∧ ∀ j : Nat, Gr15 (zp_n u.2.1 a 3).toNat (2000 + (j + 89)) = if j = 8 * (p1).toNat + (p2).toNat ∨ j = 8 * (p2).toNat + (p1).toNat then p3 else zp_n u.2.1 (zp_n u.2.1 a 3).toNat (2000 + (j + 89)))
    rw [hrt]
    refine ⟨fun _ => ⟨by omega, fun j => ?_⟩, fun h => by exfalso; omega⟩
    rw [zp_nc hfrr15 qrw rfl (2000 + (j + 89))]
    exact zp_set_ne (Or.inl (zp_pne qrw hp (by decide)))
  · refine zp_load (pc := 17) hx hb (zd_X12_road (17, .iload_n 2, 1, 0, []) (List.mem_of_getElem? (i := 9) rfl)) rfl (j := 2) rfl ?_
    refine zp_i2l (pc := 18) hx hb (zd_X12_road (18, .i2l, 1, 0, []) (List.mem_of_getElem? (i := 10) rfl)) ?_
    refine zp_const (pc := 19) hx hb (zd_X12_road (19, .lconst 0, 1, 0, []) (List.mem_of_getElem? (i := 11) rfl)) rfl rfl ?_
    refine zp_ldc2 (pc := 20) hx hb hE (zd_X12_road (20, .ldc2_w 192, 3, 0, []) (List.mem_of_getElem? (i := 12) rfl)) (j := 82) rfl ?_
    refine zp_call (pc := 23) (how := 1) (idx := 181) (mi := 186) (S := []) hx hb hE hw heff hrm (zX_in2 hW) rfl (j := 2) rfl rfl (by decide +kernel) (zd_X12_road (23, .invokestatic 181, 3, 0, []) (List.mem_of_getElem? (i := 13) rfl)) [p2, 0, 7] rfl ⟨zp_o1 (zp_r1 (by omega) (by omega)), zp_o1 (zp_r1 (by omega) (by omega)), zp_o1 (zp_r1 (by omega) (by omega)), trivial⟩ (Nat.le_of_ble_eq_true rfl) trivial (fun al hal rnw16 Pw16 Gw16 hextw16 hfrw16 hokw16 hcsw16 hpsiw16 => ?_)
    obtain rfl := List.mem_singleton.mp hal
    have hrw16 := zp_int (hokw16 _ rfl).1
    obtain ⟨hPew16, hGew16, htw16⟩ := hpsiw16
    have htw16 : rnw16 = 1 ↔ 0 ≤ p2 ∧ p2 ≤ 7 := htw16
    rw [hPew16, hGew16]
    refine zp_if (pc := 26) (tgt := 46) hx hb (zd_X12_road (26, .ifCond .eq 20, 3, 0, []) (List.mem_of_getElem? (i := 14) rfl)) rfl (fun (hc39 : rnw16 = 0) => ?_) (fun (hc39 : ¬ (rnw16 = 0)) => ?_)
    · refine zp_load (pc := 46) hx hb (zd_X12_road (46, .aload_n 0, 1, 0, []) (List.mem_of_getElem? (i := 24) rfl)) rfl (j := 0) rfl ?_
      refine zp_const (pc := 47) hx hb (zd_X12_road (47, .iconst (-1), 1, 0, []) (List.mem_of_getElem? (i := 25) rfl)) rfl rfl ?_
      refine zp_call (pc := 48) (how := 0) (idx := 170) (mi := 183) (S := []) hx hb hE hw heff hrm (zX_te13 hW) rfl (j := 0) rfl rfl (by decide +kernel) (zd_X12_road (48, .invokevirtual 170, 3, 0, []) (List.mem_of_getElem? (i := 26) rfl)) [(a : Int), (-1)] rfl ⟨zp_o2 hp, zp_o0 (by omega) (by omega) (by omega) (by omega), trivial⟩ (Nat.le_of_ble_eq_true rfl) trivial (fun al hal rnr17 Pr17 Gr17 hextr17 hfrr17 hokr17 hcsr17 hpsir17 => ?_)
      obtain rfl := List.mem_singleton.mp hal
      have hrr17 := zp_int (hokr17 _ rfl).1
      have yar17 := hextr17 _ _ hp
      have yrw_r17 := hextr17 _ _ qrw_
      have htr17 : rnr17 = (-1) := hpsir17.2
      refine zp_iret (pc := 51) (n := rnr17) hx hb hE hQ hU5 rfl (by decide) (zd_X12_road (51, .ireturn, 1, 0, []) (List.mem_of_getElem? (i := 27) rfl)) (j := 0) rfl (zp_o0 (by omega) (by omega) (by omega) (by omega)) ?_
      rw [hps]
      show (¬ (0 ≤ p1 ∧ p1 ≤ 7 ∧ 0 ≤ p2 ∧ p2 ≤ 7 ∧ ¬ p1 = p2 ∧ 0 ≤ p3 ∧ p3 ≤ 99) → rnr17 = -1 ∧ ∀ j : Nat, Gr17 (zp_n u.2.1 a 3).toNat (2000 + (j + 89)) = zp_n u.2.1 (zp_n u.2.1 a 3).toNat (2000 + (j + 89))) ∧ ((0 ≤ p1 ∧ p1 ≤ 7 ∧ 0 ≤ p2 ∧ p2 ≤ 7 ∧ ¬ p1 = p2 ∧ 0 ≤ p3 ∧ p3 ≤ 99) → rnr17 = zp_n u.2.1 (zp_n u.2.1 a 3).toNat (2000 + (89 + (8 * (p1).toNat + (p2).toNat))) ∧ ∀ j : Nat, Gr17 (zp_n u.2.1 a 3).toNat (2000 + (j + 89)) = if j = 8 * (p1).toNat + (p2).toNat ∨ j = 8 * (p2).toNat + (p1).toNat then p3 else zp_n u.2.1 (zp_n u.2.1 a 3).toNat (2000 + (j + 89)))
      rw [hrt]
      refine ⟨fun _ => ⟨by omega, fun j => ?_⟩, fun h => by exfalso; omega⟩
      rw [zp_nc hfrr17 qrw rfl (2000 + (j + 89))]
      exact zp_set_ne (Or.inl (zp_pne qrw hp (by decide)))
    · refine zp_load (pc := 29) hx hb (zd_X12_road (29, .iload_n 1, 1, 0, []) (List.mem_of_getElem? (i := 15) rfl)) rfl (j := 1) rfl ?_
      refine zp_load (pc := 30) hx hb (zd_X12_road (30, .iload_n 2, 1, 0, []) (List.mem_of_getElem? (i := 16) rfl)) rfl (j := 2) rfl ?_
      refine zp_icmp (pc := 31) (tgt := 46) hx hb (zd_X12_road (31, .if_icmp .eq 15, 3, 0, []) (List.mem_of_getElem? (i := 17) rfl)) rfl (fun (hc40 : p1 = p2) => ?_) (fun (hc40 : ¬ (p1 = p2)) => ?_)
      · refine zp_load (pc := 46) hx hb (zd_X12_road (46, .aload_n 0, 1, 0, []) (List.mem_of_getElem? (i := 24) rfl)) rfl (j := 0) rfl ?_
        refine zp_const (pc := 47) hx hb (zd_X12_road (47, .iconst (-1), 1, 0, []) (List.mem_of_getElem? (i := 25) rfl)) rfl rfl ?_
        refine zp_call (pc := 48) (how := 0) (idx := 170) (mi := 183) (S := []) hx hb hE hw heff hrm (zX_te13 hW) rfl (j := 0) rfl rfl (by decide +kernel) (zd_X12_road (48, .invokevirtual 170, 3, 0, []) (List.mem_of_getElem? (i := 26) rfl)) [(a : Int), (-1)] rfl ⟨zp_o2 hp, zp_o0 (by omega) (by omega) (by omega) (by omega), trivial⟩ (Nat.le_of_ble_eq_true rfl) trivial (fun al hal rnr18 Pr18 Gr18 hextr18 hfrr18 hokr18 hcsr18 hpsir18 => ?_)
        obtain rfl := List.mem_singleton.mp hal
        have hrr18 := zp_int (hokr18 _ rfl).1
        have yar18 := hextr18 _ _ hp
        have yrw_r18 := hextr18 _ _ qrw_
        have htr18 : rnr18 = (-1) := hpsir18.2
        refine zp_iret (pc := 51) (n := rnr18) hx hb hE hQ hU5 rfl (by decide) (zd_X12_road (51, .ireturn, 1, 0, []) (List.mem_of_getElem? (i := 27) rfl)) (j := 0) rfl (zp_o0 (by omega) (by omega) (by omega) (by omega)) ?_
        rw [hps]
        show (¬ (0 ≤ p1 ∧ p1 ≤ 7 ∧ 0 ≤ p2 ∧ p2 ≤ 7 ∧ ¬ p1 = p2 ∧ 0 ≤ p3 ∧ p3 ≤ 99) → rnr18 = -1 ∧ ∀ j : Nat, Gr18 (zp_n u.2.1 a 3).toNat (2000 + (j + 89)) = zp_n u.2.1 (zp_n u.2.1 a 3).toNat (2000 + (j + 89))) ∧ ((0 ≤ p1 ∧ p1 ≤ 7 ∧ 0 ≤ p2 ∧ p2 ≤ 7 ∧ ¬ p1 = p2 ∧ 0 ≤ p3 ∧ p3 ≤ 99) → rnr18 = zp_n u.2.1 (zp_n u.2.1 a 3).toNat (2000 + (89 + (8 * (p1).toNat + (p2).toNat))) ∧ ∀ j : Nat, Gr18 (zp_n u.2.1 a 3).toNat (2000 + (j + 89)) = if j = 8 * (p1).toNat + (p2).toNat ∨ j = 8 * (p2).toNat + (p1).toNat then p3 else zp_n u.2.1 (zp_n u.2.1 a 3).toNat (2000 + (j + 89)))
        rw [hrt]
        refine ⟨fun _ => ⟨by omega, fun j => ?_⟩, fun h => by exfalso; omega⟩
        rw [zp_nc hfrr18 qrw rfl (2000 + (j + 89))]
        exact zp_set_ne (Or.inl (zp_pne qrw hp (by decide)))
      · refine zp_load (pc := 34) hx hb (zd_X12_road (34, .iload_n 3, 1, 0, []) (List.mem_of_getElem? (i := 18) rfl)) rfl (j := 3) rfl ?_
        refine zp_i2l (pc := 35) hx hb (zd_X12_road (35, .i2l, 1, 0, []) (List.mem_of_getElem? (i := 19) rfl)) ?_
        refine zp_const (pc := 36) hx hb (zd_X12_road (36, .lconst 0, 1, 0, []) (List.mem_of_getElem? (i := 20) rfl)) rfl rfl ?_
        refine zp_ldc2 (pc := 37) hx hb hE (zd_X12_road (37, .ldc2_w 194, 3, 0, []) (List.mem_of_getElem? (i := 21) rfl)) (j := 83) rfl ?_
        refine zp_call (pc := 40) (how := 1) (idx := 181) (mi := 186) (S := []) hx hb hE hw heff hrm (zX_in2 hW) rfl (j := 2) rfl rfl (by decide +kernel) (zd_X12_road (40, .invokestatic 181, 3, 0, []) (List.mem_of_getElem? (i := 22) rfl)) [p3, 0, 99] rfl ⟨zp_o1 (zp_r1 (by omega) (by omega)), zp_o1 (zp_r1 (by omega) (by omega)), zp_o1 (zp_r1 (by omega) (by omega)), trivial⟩ (Nat.le_of_ble_eq_true rfl) trivial (fun al hal rnw19 Pw19 Gw19 hextw19 hfrw19 hokw19 hcsw19 hpsiw19 => ?_)
        obtain rfl := List.mem_singleton.mp hal
        have hrw19 := zp_int (hokw19 _ rfl).1
        obtain ⟨hPew19, hGew19, htw19⟩ := hpsiw19
        have htw19 : rnw19 = 1 ↔ 0 ≤ p3 ∧ p3 ≤ 99 := htw19
        rw [hPew19, hGew19]
        refine zp_if (pc := 43) (tgt := 52) hx hb (zd_X12_road (43, .ifCond .ne 9, 3, 0, []) (List.mem_of_getElem? (i := 23) rfl)) rfl (fun (hc41 : ¬ rnw19 = 0) => ?_) (fun (hc41 : ¬ (¬ rnw19 = 0)) => ?_)
        · obtain ⟨i1, rfl⟩ := zp_nat (show 0 ≤ p1 by omega)
          obtain ⟨i2, rfl⟩ := zp_nat (show 0 ≤ p2 by omega)
          show zp_J p l e R s m args below meth c Q w u [] 52 [(0, 2, (a : Int)), (1, 0, (i1 : Int)), (2, 0, (i2 : Int)), (3, 0, p3)] [] u.1 (zp_set (zp_n u.2.1) a 0 0)
          refine zp_load (pc := 52) hx hb (zd_X12_road (52, .aload_n 0, 1, 0, []) (List.mem_of_getElem? (i := 28) rfl)) rfl (j := 0) rfl ?_
          refine zp_getf (n := (rw_ : Int)) (pc := 53) hx hb hE hw (zd_X12_road (53, .getfield 13, 3, 0, []) (List.mem_of_getElem? (i := 29) rfl)) (j := 21) rfl rfl rfl hp ((zp_set_ne (Or.inr (by decide))).trans (hrw_)) ?_
          refine zp_const (pc := 56) hx hb (zd_X12_road (56, .bipush 89, 2, 0, []) (List.mem_of_getElem? (i := 30) rfl)) rfl rfl ?_
          refine zp_const (pc := 58) hx hb (zd_X12_road (58, .bipush 8, 2, 0, []) (List.mem_of_getElem? (i := 31) rfl)) rfl rfl ?_
          refine zp_load (pc := 60) hx hb (zd_X12_road (60, .iload_n 2, 1, 0, []) (List.mem_of_getElem? (i := 32) rfl)) rfl (j := 2) rfl ?_
          refine zp_mul (n := (8 * (i2 : Int))) (pc := 61) hx hb (zd_X12_road (61, .imul, 1, 0, []) (List.mem_of_getElem? (i := 33) rfl)) (by omega) (zp_r0 (by omega) (by omega)) ?_
          refine zp_add (n := (8 * (i2 : Int) + 89)) (pc := 62) hx hb (zd_X12_road (62, .iadd, 1, 0, []) (List.mem_of_getElem? (i := 34) rfl)) (by omega) (zp_r0 (by omega) (by omega)) ?_
          refine zp_load (pc := 63) hx hb (zd_X12_road (63, .iload_n 1, 1, 0, []) (List.mem_of_getElem? (i := 35) rfl)) rfl (j := 1) rfl ?_
          refine zp_add (n := (8 * (i2 : Int) + (i1 : Int) + 89)) (pc := 64) hx hb (zd_X12_road (64, .iadd, 1, 0, []) (List.mem_of_getElem? (i := 36) rfl)) (by omega) (zp_r0 (by omega) (by omega)) ?_
          refine zp_load (pc := 65) hx hb (zd_X12_road (65, .iload_n 3, 1, 0, []) (List.mem_of_getElem? (i := 37) rfl)) rfl (j := 3) rfl ?_
          refine zp_iastR (j := (8 * i2 + i1 + 89)) (pc := 66) hx hb hw heff (zd_X12_road (66, .iastore, 1, 0, []) (List.mem_of_getElem? (i := 38) rfl)) qrw_ (by omega) (by omega) (zr_st (lo := (-2147483648)) (hi := 2147483647) (zr_rd (8 * i2 + i1 + 89) (by omega) (by omega)) (by omega) (by omega) (by omega) (by omega)) ⟨25936, rfl, zr_pm (lo := 89) (hi := 152) (by omega) (by omega) (by decide) (by decide)⟩ ?_
          refine zp_load (pc := 67) hx hb (zd_X12_road (67, .aload_n 0, 1, 0, []) (List.mem_of_getElem? (i := 39) rfl)) rfl (j := 0) rfl ?_
          refine zp_const (pc := 68) hx hb (zd_X12_road (68, .bipush 89, 2, 0, []) (List.mem_of_getElem? (i := 40) rfl)) rfl rfl ?_
          refine zp_const (pc := 70) hx hb (zd_X12_road (70, .bipush 8, 2, 0, []) (List.mem_of_getElem? (i := 41) rfl)) rfl rfl ?_
          refine zp_load (pc := 72) hx hb (zd_X12_road (72, .iload_n 1, 1, 0, []) (List.mem_of_getElem? (i := 42) rfl)) rfl (j := 1) rfl ?_
          refine zp_mul (n := (8 * (i1 : Int))) (pc := 73) hx hb (zd_X12_road (73, .imul, 1, 0, []) (List.mem_of_getElem? (i := 43) rfl)) (by omega) (zp_r0 (by omega) (by omega)) ?_
          refine zp_add (n := (8 * (i1 : Int) + 89)) (pc := 74) hx hb (zd_X12_road (74, .iadd, 1, 0, []) (List.mem_of_getElem? (i := 44) rfl)) (by omega) (zp_r0 (by omega) (by omega)) ?_
          refine zp_load (pc := 75) hx hb (zd_X12_road (75, .iload_n 2, 1, 0, []) (List.mem_of_getElem? (i := 45) rfl)) rfl (j := 2) rfl ?_
          refine zp_add (n := (8 * (i1 : Int) + (i2 : Int) + 89)) (pc := 76) hx hb (zd_X12_road (76, .iadd, 1, 0, []) (List.mem_of_getElem? (i := 46) rfl)) (by omega) (zp_r0 (by omega) (by omega)) ?_
          refine zp_load (pc := 77) hx hb (zd_X12_road (77, .iload_n 3, 1, 0, []) (List.mem_of_getElem? (i := 47) rfl)) rfl (j := 3) rfl ?_
          have hwc20 : (zp_set (zp_set (zp_n u.2.1) a 0 0) rw_ (2000 + (8 * i2 + i1 + 89)) p3) a 3 = (rw_ : Int) := ((zp_set_ne (Or.inl (zp_pne hp qrw_ (by decide)))).trans ((zp_set_ne (Or.inr (by decide))).trans (hrw_)))
          refine zp_call (pc := 78) (how := 0) (idx := 196) (mi := 190) (S := []) hx hb hE hw heff hrm (zX_chr hW) rfl (j := 4) rfl rfl (by decide +kernel) (zd_X12_road (78, .invokevirtual 196, 3, 0, []) (List.mem_of_getElem? (i := 48) rfl)) [(a : Int), (8 * (i1 : Int) + (i2 : Int) + 89), p3] rfl ⟨zp_o2 hp, zp_o0 (by omega) (by omega) (by omega) (by omega), zp_o0 (by omega) (by omega) (by omega) (by omega), trivial⟩ (Nat.le_of_ble_eq_true rfl) trivial (fun al hal rnc20 Pc20 Gc20 hextc20 hfrc20 hokc20 hcsc20 hpsic20 => ?_)
          obtain rfl := List.mem_singleton.mp hal
          have hrc20 := zp_int (hokc20 _ rfl).1
          have yac20 := hextc20 _ _ hp
          have yrw_c20 := hextc20 _ _ qrw_
          obtain ⟨-, htc20, hvc20⟩ := hpsic20
          have htc20 : rnc20 = (zp_set (zp_set (zp_n u.2.1) a 0 0) rw_ (2000 + (8 * i2 + i1 + 89)) p3) ((zp_set (zp_set (zp_n u.2.1) a 0 0) rw_ (2000 + (8 * i2 + i1 + 89)) p3) a 3).toNat (2000 + ((8 * (i1 : Int) + (i2 : Int) + 89)).toNat) := htc20
          have hvc20 : ∀ j, Gc20 ((zp_set (zp_set (zp_n u.2.1) a 0 0) rw_ (2000 + (8 * i2 + i1 + 89)) p3) a 3).toNat (2000 + j) = if j = ((8 * (i1 : Int) + (i2 : Int) + 89)).toNat then p3 else (zp_set (zp_set (zp_n u.2.1) a 0 0) rw_ (2000 + (8 * i2 + i1 + 89)) p3) ((zp_set (zp_set (zp_n u.2.1) a 0 0) rw_ (2000 + (8 * i2 + i1 + 89)) p3) a 3).toNat (2000 + j) := hvc20
          rw [hwc20, show ((rw_ : Int)).toNat = rw_ from rfl, show ((8 * (i1 : Int) + (i2 : Int) + 89)).toNat = 8 * i1 + i2 + 89 by omega] at htc20
          rw [hwc20, show ((rw_ : Int)).toNat = rw_ from rfl, show ((8 * (i1 : Int) + (i2 : Int) + 89)).toNat = 8 * i1 + i2 + 89 by omega] at hvc20
          rw [zp_set_el, if_neg (by omega), zp_set_ne (Or.inl (zp_pne qrw hp (by decide)))] at htc20
          refine zp_iret (pc := 81) (n := rnc20) hx hb hE hQ hU5 rfl (by decide) (zd_X12_road (81, .ireturn, 1, 0, []) (List.mem_of_getElem? (i := 49) rfl)) (j := 0) rfl (zp_o0 (by omega) (by omega) (by omega) (by omega)) ?_
          rw [hps]
          show (¬ (0 ≤ (i1 : Int) ∧ (i1 : Int) ≤ 7 ∧ 0 ≤ (i2 : Int) ∧ (i2 : Int) ≤ 7 ∧ ¬ (i1 : Int) = (i2 : Int) ∧ 0 ≤ p3 ∧ p3 ≤ 99) → rnc20 = -1 ∧ ∀ j : Nat, Gc20 (zp_n u.2.1 a 3).toNat (2000 + (j + 89)) = zp_n u.2.1 (zp_n u.2.1 a 3).toNat (2000 + (j + 89))) ∧ ((0 ≤ (i1 : Int) ∧ (i1 : Int) ≤ 7 ∧ 0 ≤ (i2 : Int) ∧ (i2 : Int) ≤ 7 ∧ ¬ (i1 : Int) = (i2 : Int) ∧ 0 ≤ p3 ∧ p3 ≤ 99) → rnc20 = zp_n u.2.1 (zp_n u.2.1 a 3).toNat (2000 + (89 + (8 * ((i1 : Int)).toNat + ((i2 : Int)).toNat))) ∧ ∀ j : Nat, Gc20 (zp_n u.2.1 a 3).toNat (2000 + (j + 89)) = if j = 8 * ((i1 : Int)).toNat + ((i2 : Int)).toNat ∨ j = 8 * ((i2 : Int)).toNat + ((i1 : Int)).toNat then p3 else zp_n u.2.1 (zp_n u.2.1 a 3).toNat (2000 + (j + 89)))
          rw [hrt]
          refine ⟨fun h => absurd (by omega) h, fun _ => ⟨?_, fun j => ?_⟩⟩
          · rw [Int.toNat_natCast, Int.toNat_natCast, htc20]
            congr 1
            omega
          · rw [Int.toNat_natCast, Int.toNat_natCast, hvc20]
            by_cases h1 : j = 8 * i1 + i2
            · rw [if_pos (by omega), if_pos (Or.inl h1)]
            · rw [if_neg (by omega), zp_set_el]
              by_cases h2 : j = 8 * i2 + i1
              · rw [if_pos (by omega), if_pos (Or.inr h2)]
              · rw [if_neg (by omega), if_neg (by omega), zp_set_ne (Or.inl (zp_pne qrw hp (by decide)))]
        · refine zp_load (pc := 46) hx hb (zd_X12_road (46, .aload_n 0, 1, 0, []) (List.mem_of_getElem? (i := 24) rfl)) rfl (j := 0) rfl ?_
          refine zp_const (pc := 47) hx hb (zd_X12_road (47, .iconst (-1), 1, 0, []) (List.mem_of_getElem? (i := 25) rfl)) rfl rfl ?_
          refine zp_call (pc := 48) (how := 0) (idx := 170) (mi := 183) (S := []) hx hb hE hw heff hrm (zX_te13 hW) rfl (j := 0) rfl rfl (by decide +kernel) (zd_X12_road (48, .invokevirtual 170, 3, 0, []) (List.mem_of_getElem? (i := 26) rfl)) [(a : Int), (-1)] rfl ⟨zp_o2 hp, zp_o0 (by omega) (by omega) (by omega) (by omega), trivial⟩ (Nat.le_of_ble_eq_true rfl) trivial (fun al hal rnr21 Pr21 Gr21 hextr21 hfrr21 hokr21 hcsr21 hpsir21 => ?_)
          obtain rfl := List.mem_singleton.mp hal
          have hrr21 := zp_int (hokr21 _ rfl).1
          have yar21 := hextr21 _ _ hp
          have yrw_r21 := hextr21 _ _ qrw_
          have htr21 : rnr21 = (-1) := hpsir21.2
          refine zp_iret (pc := 51) (n := rnr21) hx hb hE hQ hU5 rfl (by decide) (zd_X12_road (51, .ireturn, 1, 0, []) (List.mem_of_getElem? (i := 27) rfl)) (j := 0) rfl (zp_o0 (by omega) (by omega) (by omega) (by omega)) ?_
          rw [hps]
          show (¬ (0 ≤ p1 ∧ p1 ≤ 7 ∧ 0 ≤ p2 ∧ p2 ≤ 7 ∧ ¬ p1 = p2 ∧ 0 ≤ p3 ∧ p3 ≤ 99) → rnr21 = -1 ∧ ∀ j : Nat, Gr21 (zp_n u.2.1 a 3).toNat (2000 + (j + 89)) = zp_n u.2.1 (zp_n u.2.1 a 3).toNat (2000 + (j + 89))) ∧ ((0 ≤ p1 ∧ p1 ≤ 7 ∧ 0 ≤ p2 ∧ p2 ≤ 7 ∧ ¬ p1 = p2 ∧ 0 ≤ p3 ∧ p3 ≤ 99) → rnr21 = zp_n u.2.1 (zp_n u.2.1 a 3).toNat (2000 + (89 + (8 * (p1).toNat + (p2).toNat))) ∧ ∀ j : Nat, Gr21 (zp_n u.2.1 a 3).toNat (2000 + (j + 89)) = if j = 8 * (p1).toNat + (p2).toNat ∨ j = 8 * (p2).toNat + (p1).toNat then p3 else zp_n u.2.1 (zp_n u.2.1 a 3).toNat (2000 + (j + 89)))
          rw [hrt]
          refine ⟨fun _ => ⟨by omega, fun j => ?_⟩, fun h => by exfalso; omega⟩
          rw [zp_nc hfrr21 qrw rfl (2000 + (j + 89))]
          exact zp_set_ne (Or.inl (zp_pne qrw hp (by decide)))
/-- there is such a search -/
def zgmf (ok : Nat → Prop) (d : ∀ s, Decidable (ok s)) : Nat → Int × Nat
  | 0 => (100000000, 0)
  | n + 1 => if zon n 10 < (zgmf ok d n).1 ∧ @decide (ok n) (d n) = true then (zon n 10, n) else zgmf ok d n
theorem zgm_ex (ok : Nat → Prop) : ∃ (fw : Nat → Int) (its : Nat → Nat), zgm ok fw its := by
  refine ⟨fun n => (zgmf ok (fun s => Classical.propDecidable (ok s)) n).1, fun n => (zgmf ok (fun s => Classical.propDecidable (ok s)) n).2, rfl, rfl, fun n _ => ⟨fun h => ?_, fun h => ?_⟩⟩
  · have e : zgmf ok (fun s => Classical.propDecidable (ok s)) (n + 1) = (zon n 10, n) := if_pos ⟨h.1, @decide_eq_true _ (Classical.propDecidable _) h.2⟩
    dsimp only
    rw [e]
    exact ⟨rfl, rfl⟩
  · have e : zgmf ok (fun s => Classical.propDecidable (ok s)) (n + 1) = zgmf ok (fun s => Classical.propDecidable (ok s)) n := if_neg (fun z => h ⟨z.1, @of_decide_eq_true _ (Classical.propDecidable _) z.2⟩)
    dsimp only
    rw [e]
    exact ⟨rfl, rfl⟩
theorem zgm_lt {ok : Nat → Prop} {fw : Nat → Int} {its : Nat → Nat} (h : zgm ok fw its) : ∀ n, n ≤ 256 → its n < 256 ∧ 0 ≤ fw n ∧ fw n ≤ 100000000 ∧ (ok 255 ∨ True)
  | 0, _ => by rw [h.1, h.2.1]; exact ⟨by decide, by decide, by decide, Or.inr trivial⟩
  | n + 1, hn => by
    have ih := zgm_lt h n (by omega)
    have hz := zon_le (s := n) (by omega) 10 (Nat.le_refl _)
    by_cases hc : zon n 10 < fw n ∧ ok n
    · obtain ⟨e1, e2⟩ := (h.2.2 n (by omega)).1 hc
      rw [e1, e2]
      exact ⟨by omega, by omega, by omega, Or.inr trivial⟩
    · obtain ⟨e1, e2⟩ := (h.2.2 n (by omega)).2 hc
      rw [e1, e2]
      exact ih
theorem zgm_le {ok : Nat → Prop} {fw : Nat → Int} {its : Nat → Nat} (h : zgm ok fw its) (h255 : ok 255) : fw 256 ≤ 10 := by
  have hz := zon_le (s := 255) (by omega) 10 (Nat.le_refl _)
  by_cases hc : zon 255 10 < fw 255 ∧ ok 255
  · rw [((h.2.2 255 (by omega)).1 hc).1]
    omega
  · rw [((h.2.2 255 (by omega)).2 hc).1]
    have : ¬ zon 255 10 < fw 255 := fun z => hc ⟨z, h255⟩
    omega
theorem zgi_255 : ∀ a, a < 8 → zgi 255 a = true := by decide +kernel
theorem zgp_255 {R : Nat → Int} : zgp R 255 := fun a _ ha _ _ => Or.inl (zgi_255 a ha)
def zg_c (R : Nat → Int) (k a b : Nat) : Prop := ¬ R (8 * a + b) = 0 → zgi k a = true ∨ zgi k b = true
def zg_al (R : Nat → Int) (k x y : Nat) : Prop := (∀ a b, a < x → b < a → zg_c R k a b) ∧ ∀ b, b < y → zg_c R k x b
theorem zg_al0 {R : Nat → Int} {k : Nat} : zg_al R k 0 0 := ⟨fun a b h => absurd h (Nat.not_lt_zero a), fun b h => absurd h (Nat.not_lt_zero b)⟩
theorem zg_aly {R : Nat → Int} {k x y : Nat} : zg_al R k x (y + 1) ↔ zg_al R k x y ∧ zg_c R k x y := by
  constructor
  · rintro ⟨h1, h2⟩
    exact ⟨⟨h1, fun b hb => h2 b (by omega)⟩, h2 y (by omega)⟩
  · rintro ⟨⟨h1, h2⟩, h3⟩
    refine ⟨h1, fun b hb => ?_⟩
    by_cases e : b = y
    · rw [e]; exact h3
    · exact h2 b (by omega)
theorem zg_alx {R : Nat → Int} {k x : Nat} : zg_al R k x x ↔ zg_al R k (x + 1) 0 := by
  constructor
  · rintro ⟨h1, h2⟩
    refine ⟨fun a b ha hb => ?_, fun b h => absurd h (Nat.not_lt_zero b)⟩
    by_cases e : a = x
    · rw [e] at hb ⊢; exact h2 b hb
    · exact h1 a b (by omega) hb
  · rintro ⟨h1, h2⟩
    exact ⟨fun a b ha hb => h1 a b (by omega) hb, fun b hb => h1 x b (by omega) hb⟩
theorem zg_al8 {R : Nat → Int} {k : Nat} : zgp R k ↔ zg_al R k 8 0 := ⟨fun h => ⟨fun a b ha hb => h a b ha hb, fun b h => absurd h (Nat.not_lt_zero b)⟩, fun h a b ha hb => h.1 a b ha hb⟩
theorem zg_als {R : Nat → Int} {k x : Nat} (h : zg_al R k 8 0) (hx : x ≤ 8) : zg_al R k x 0 := ⟨fun a b ha hb => h.1 a b (by omega) hb, fun b h => absurd h (Nat.not_lt_zero b)⟩
def zK_mgd : zk_K := (zt_mn 269, prog_14_method_93_code, 8, (Option.some Jvm.ClassFile.FieldType.int), 1, 12, [(2, 13, 0, 0), (0, 0, (-2147483648), 2147483647)], [(some (0, 0, (-1), 255), [])], [(13, 0, 0)], (1, 40, 0, 0))
def zψ_mgd : (Nat → Option Nat) → (Nat → Nat → Int) → List Int → (Nat → Option Nat) → (Nat → Nat → Int) → Int → Prop := fun P G ps P' G' rn => P' = P ∧ (∀ k, k ≠ zp_0 ps → G' k = G k) ∧ (¬ (0 ≤ ps.getD 1 0 ∧ ps.getD 1 0 ≤ 1) → rn = -1) ∧ (0 ≤ ps.getD 1 0 ∧ ps.getD 1 0 ≤ 1 → ∃ (fw : Nat → Int) (its : Nat → Nat), zgm (zgp (fun j => G (G (zp_0 ps) 3).toNat (2000 + (j + 89)))) fw its ∧ its 256 < 256 ∧ rn = if ps.getD 1 0 = 0 then fw 256 else (its 256 : Nat))
set_option maxHeartbeats 16000000 in
theorem zX_mgd {l : Launch} {w : zk_W} (hW : zh_W w) : zk_metX l w zt_dv zt_TB zK_mgd (zp_A zp_tA) (zp_B zψ_mgd) ∧ zk_cok w zt_TB zK_mgd := by
  refine zp_methX (cn := "WoundTownModel") zp_lkall hW (pl := 1930) rfl (by decide +kernel) (fun p e R s m args below meth c Q u hx hb hE hQ hU5 heff hnL hok hφ => ?_)
  have hw := hW.1
  obtain ⟨p0, p1, hps, k0, k1⟩ := zp_ps2 hok
  obtain ⟨a, rfl, hp⟩ := zp_this k0
  have hrm : zk_Kr (zk_ev (zt_types, zp_lk, zt_dv, [], [], zp_lc, zK_mgd)) = zk_Kr zK_mgd := rfl
  rw [hps] at hφ ⊢
  have hi1 := zp_int k1
  show zp_J p l e R s m args below meth c Q w u [] 0 [(0, 2, (a : Int)), (1, 0, p1)] [] u.1 (zp_n u.2.1)
  refine zp_kn (k := 3) (a := a) hw (show zp_fd 13 3 = some (12, 2, 59, 0, 0) from rfl) rfl hp (fun hkrw_ => ?_)
  obtain ⟨rw_, hrw_, qrw_⟩ := zp_this hkrw_
  have qrw : u.1 rw_ = some 59 := qrw_
  have hrt : (zp_n u.2.1 a 3).toNat = rw_ := by rw [hrw_, Int.toNat_natCast]
  obtain ⟨ok, hok9⟩ : ∃ ok : Nat → Prop, ok = zgp (fun j => zp_n u.2.1 rw_ (2000 + (j + 89))) := ⟨_, rfl⟩
  obtain ⟨fw, its, hm0, hm1, hm2⟩ : ∃ (fw : Nat → Int) (its : Nat → Nat), zgm ok fw its := zgm_ex ok
  have hmb := zgm_lt ⟨hm0, hm1, hm2⟩
  have hmf : fw 256 ≤ 10 := zgm_le ⟨hm0, hm1, hm2⟩ (by rw [hok9]; exact zgp_255)
  refine zp_load (pc := 0) hx hb (zd_X12_guards (0, .aload_n 0, 1, 0, []) (List.mem_of_getElem? (i := 0) rfl)) rfl (j := 0) rfl ?_
  refine zp_const (pc := 1) hx hb (zd_X12_guards (1, .iconst 0, 1, 0, []) (List.mem_of_getElem? (i := 1) rfl)) rfl rfl ?_
  refine zp_putf (pc := 2) hx hb hE hw heff (zd_X12_guards (2, .putfield 161, 3, 0, []) (List.mem_of_getElem? (i := 2) rfl)) (j := 18) rfl rfl rfl hp (zp_o0 (by decide) (by decide) (by decide) (by decide)) ?_
  refine zp_load (pc := 5) hx hb (zd_X12_guards (5, .iload_n 1, 1, 0, []) (List.mem_of_getElem? (i := 3) rfl)) rfl (j := 1) rfl ?_
  refine zp_i2l (pc := 6) hx hb (zd_X12_guards (6, .i2l, 1, 0, []) (List.mem_of_getElem? (i := 4) rfl)) ?_
  refine zp_const (pc := 7) hx hb (zd_X12_guards (7, .lconst 0, 1, 0, []) (List.mem_of_getElem? (i := 5) rfl)) rfl rfl ?_
  refine zp_const (pc := 8) hx hb (zd_X12_guards (8, .lconst 1, 1, 0, []) (List.mem_of_getElem? (i := 6) rfl)) rfl rfl ?_
  refine zp_call (pc := 9) (how := 1) (idx := 181) (mi := 186) (S := []) hx hb hE hw heff hrm (zX_in2 hW) rfl (j := 2) rfl rfl (by decide +kernel) (zd_X12_guards (9, .invokestatic 181, 3, 0, []) (List.mem_of_getElem? (i := 7) rfl)) [p1, 0, 1] rfl ⟨zp_o1 (zp_r1 (by omega) (by omega)), zp_o1 (zp_r1 (by omega) (by omega)), zp_o1 (zp_r1 (by omega) (by omega)), trivial⟩ (Nat.le_of_ble_eq_true rfl) trivial (fun al hal rnw22 Pw22 Gw22 hextw22 hfrw22 hokw22 hcsw22 hpsiw22 => ?_)
  obtain rfl := List.mem_singleton.mp hal
  have hrw22 := zp_int (hokw22 _ rfl).1
  obtain ⟨hPew22, hGew22, htw22⟩ := hpsiw22
  have htw22 : rnw22 = 1 ↔ 0 ≤ p1 ∧ p1 ≤ 1 := htw22
  rw [hPew22, hGew22]
  refine zp_if (pc := 12) (tgt := 17) hx hb (zd_X12_guards (12, .ifCond .ne 5, 3, 0, []) (List.mem_of_getElem? (i := 8) rfl)) rfl (fun (hc42 : ¬ rnw22 = 0) => ?_) (fun (hc42 : ¬ (¬ rnw22 = 0)) => ?_)
  · refine zp_ldcw (pc := 17) hx hb hE (zd_X12_guards (17, .ldc_w 456, 3, 0, []) (List.mem_of_getElem? (i := 11) rfl)) (j := 109) rfl ?_
    refine zp_store (L' := [(2, 0, 100000000), (0, 2, (a : Int)), (1, 0, p1)]) (pc := 20) hx hb hnL (zd_X12_guards (20, .istore_n 2, 1, 0, []) (List.mem_of_getElem? (i := 12) rfl)) rfl rfl rfl ?_
    refine zp_const (pc := 21) hx hb (zd_X12_guards (21, .iconst 0, 1, 0, []) (List.mem_of_getElem? (i := 13) rfl)) rfl rfl ?_
    refine zp_store (L' := [(3, 0, 0), (2, 0, 100000000), (0, 2, (a : Int)), (1, 0, p1)]) (pc := 22) hx hb hnL (zd_X12_guards (22, .istore_n 3, 1, 0, []) (List.mem_of_getElem? (i := 14) rfl)) rfl rfl rfl ?_
    refine zp_const (pc := 23) hx hb (zd_X12_guards (23, .iconst 0, 1, 0, []) (List.mem_of_getElem? (i := 15) rfl)) rfl rfl ?_
    refine zp_store (L' := [(4, 0, 0), (3, 0, 0), (2, 0, 100000000), (0, 2, (a : Int)), (1, 0, p1)]) (pc := 24) hx hb hnL (zd_X12_guards (24, .istore 4, 2, 0, []) (List.mem_of_getElem? (i := 16) rfl)) rfl rfl rfl ?_
    obtain ⟨Gt, hGt⟩ : ∃ Gz, Gz = (zp_set (zp_n u.2.1) a 0 0) := ⟨_, rfl⟩
    rw [← hGt]
    have g3 : Gt a 3 = (rw_ : Int) := by rw [hGt]; exact (zp_set_ne (Or.inr (by decide))).trans hrw_
    have gr : ∀ j, Gt rw_ j = zp_n u.2.1 rw_ j := fun j => by rw [hGt]; exact zp_set_ne (Or.inl (zp_pne qrw hp (by decide)))
    have outer : ∀ (n k : Nat), 257 - k < n → k ≤ 256 → zp_J p l e R s m args below meth c Q w u [] 26 [(4, 0, (k : Int)), (3, 0, (its k : Int)), (2, 0, fw k), (0, 2, (a : Int)), (1, 0, p1)] [] u.1 Gt := by
      intro n
      induction n with
      | zero => intro k h; exact absurd h (Nat.not_lt_zero _)
      | succ n ih =>
        intro k hn hk
        have hbk := hmb k hk
        refine zp_load (pc := 26) hx hb (zd_X12_guards (26, .iload 4, 2, 0, []) (List.mem_of_getElem? (i := 17) rfl)) rfl (j := 0) rfl ?_
        refine zp_const (pc := 28) hx hb (zd_X12_guards (28, .sipush 256, 3, 0, []) (List.mem_of_getElem? (i := 18) rfl)) rfl rfl ?_
        refine zp_icmp (pc := 31) (tgt := 158) hx hb (zd_X12_guards (31, .if_icmp .ge 127, 3, 0, []) (List.mem_of_getElem? (i := 19) rfl)) rfl (fun (hc43 : 256 ≤ (k : Int)) => ?_) (fun (hc43 : ¬ (256 ≤ (k : Int))) => ?_)
        · refine zp_load (pc := 158) hx hb (zd_X12_guards (158, .iload_n 1, 1, 0, []) (List.mem_of_getElem? (i := 78) rfl)) rfl (j := 4) rfl ?_
          refine zp_if (pc := 159) (tgt := 166) hx hb (zd_X12_guards (159, .ifCond .ne 7, 3, 0, []) (List.mem_of_getElem? (i := 79) rfl)) rfl (fun (hc44 : ¬ p1 = 0) => ?_) (fun (hc44 : ¬ (¬ p1 = 0)) => ?_)
          · refine zp_load (pc := 166) hx hb (zd_X12_guards (166, .iload_n 3, 1, 0, []) (List.mem_of_getElem? (i := 82) rfl)) rfl (j := 1) rfl ?_
            have hk256 : fw k ≤ 10 := by rw [show k = 256 by omega]; exact hmf
            refine zp_iret (pc := 167) (n := (its k : Int)) hx hb hE hQ hU5 rfl (by decide) (zd_X12_guards (167, .ireturn, 1, 0, []) (List.mem_of_getElem? (i := 83) rfl)) (j := 0) rfl (zp_o0 (by omega) (by omega) (by omega) (by omega)) ?_
            rw [hps]
            refine ⟨rfl, fun k hk => ?_, fun h => ?_, fun _ => ?_⟩
            · funext j
              rw [hGt]
              exact zp_set_ne (Or.inl hk)
            · exfalso
              have h : ¬ (0 ≤ p1 ∧ p1 ≤ 1) := h
              omega
            · show ∃ (fz : Nat → Int) (iz : Nat → Nat), zgm (zgp (fun j => zp_n u.2.1 (zp_n u.2.1 a 3).toNat (2000 + (j + 89)))) fz iz ∧ iz 256 < 256 ∧ (its k : Int) = if p1 = 0 then fz 256 else (iz 256 : Nat)
              rw [hrt, ← hok9]
              obtain rfl : k = 256 := by omega
              refine ⟨fw, its, ⟨hm0, hm1, hm2⟩, hbk.1, ?_⟩
              first | rw [if_pos (by omega)] | rw [if_neg (by omega)]
          · refine zp_load (pc := 162) hx hb (zd_X12_guards (162, .iload_n 2, 1, 0, []) (List.mem_of_getElem? (i := 80) rfl)) rfl (j := 2) rfl ?_
            refine zp_goto (tgt := 167) (pc := 163) hx hb (zd_X12_guards (163, .goto 4, 3, 0, []) (List.mem_of_getElem? (i := 81) rfl)) rfl ?_
            have hk256 : fw k ≤ 10 := by rw [show k = 256 by omega]; exact hmf
            refine zp_iret (pc := 167) (n := (fw k)) hx hb hE hQ hU5 rfl (by decide) (zd_X12_guards (167, .ireturn, 1, 0, []) (List.mem_of_getElem? (i := 83) rfl)) (j := 0) rfl (zp_o0 (by omega) (by omega) (by omega) (by omega)) ?_
            rw [hps]
            refine ⟨rfl, fun k hk => ?_, fun h => ?_, fun _ => ?_⟩
            · funext j
              rw [hGt]
              exact zp_set_ne (Or.inl hk)
            · exfalso
              have h : ¬ (0 ≤ p1 ∧ p1 ≤ 1) := h
              omega
            · show ∃ (fz : Nat → Int) (iz : Nat → Nat), zgm (zgp (fun j => zp_n u.2.1 (zp_n u.2.1 a 3).toNat (2000 + (j + 89)))) fz iz ∧ iz 256 < 256 ∧ (fw k) = if p1 = 0 then fz 256 else (iz 256 : Nat)
              rw [hrt, ← hok9]
              obtain rfl : k = 256 := by omega
              refine ⟨fw, its, ⟨hm0, hm1, hm2⟩, hbk.1, ?_⟩
              first | rw [if_pos (by omega)] | rw [if_neg (by omega)]
        · refine zp_load (pc := 34) hx hb (zd_X12_guards (34, .iload 4, 2, 0, []) (List.mem_of_getElem? (i := 20) rfl)) rfl (j := 0) rfl ?_
          refine zp_call (pc := 36) (how := 1) (idx := 485) (mi := 270) (S := []) hx hb hE hw heff hrm (zX_ons hW) rfl (j := 58) rfl rfl (by decide +kernel) (zd_X12_guards (36, .invokestatic 485, 3, 0, []) (List.mem_of_getElem? (i := 21) rfl)) [(k : Int)] rfl ⟨zp_o0 (by omega) (by omega) (by omega) (by omega), trivial⟩ (Nat.le_of_ble_eq_true rfl) trivial (fun al hal rno23 Po23 Go23 hexto23 hfro23 hoko23 hcso23 hpsio23 => ?_)
          obtain rfl := List.mem_singleton.mp hal
          have hro23 := zp_int (hoko23 _ rfl).1
          obtain ⟨hPeo23, hGeo23, hto23⟩ := hpsio23
          have hto23 : rno23 = zon ((k : Int)).toNat 10 := hto23
          rw [hPeo23, hGeo23]
          rw [Int.toNat_natCast] at hto23
          refine zp_load (pc := 39) hx hb (zd_X12_guards (39, .iload_n 2, 1, 0, []) (List.mem_of_getElem? (i := 22) rfl)) rfl (j := 2) rfl ?_
          refine zp_icmp (pc := 40) (tgt := 47) hx hb (zd_X12_guards (40, .if_icmp .ge 7, 3, 0, []) (List.mem_of_getElem? (i := 23) rfl)) rfl (fun (hc45 : (fw k) ≤ rno23) => ?_) (fun (hc45 : ¬ ((fw k) ≤ rno23)) => ?_)
          · refine zp_const (pc := 47) hx hb (zd_X12_guards (47, .iconst 0, 1, 0, []) (List.mem_of_getElem? (i := 26) rfl)) rfl rfl ?_
            refine zp_store (L' := [(5, 0, 0), (4, 0, (k : Int)), (3, 0, (its k : Int)), (2, 0, (fw k)), (0, 2, (a : Int)), (1, 0, p1)]) (pc := 48) hx hb hnL (zd_X12_guards (48, .istore 5, 2, 0, []) (List.mem_of_getElem? (i := 27) rfl)) rfl rfl rfl ?_
            refine zp_const (pc := 50) hx hb (zd_X12_guards (50, .iconst 0, 1, 0, []) (List.mem_of_getElem? (i := 28) rfl)) rfl rfl ?_
            refine zp_store (L' := [(6, 0, 0), (5, 0, 0), (4, 0, (k : Int)), (3, 0, (its k : Int)), (2, 0, (fw k)), (0, 2, (a : Int)), (1, 0, p1)]) (pc := 51) hx hb hnL (zd_X12_guards (51, .istore 6, 2, 0, []) (List.mem_of_getElem? (i := 29) rfl)) rfl rfl rfl ?_
            have mid : ∀ (n x : Nat) (av : Int), 9 - x < n → x ≤ 8 → 0 ≤ av → av ≤ 1 → (av = 1 ↔ zon k 10 < fw k ∧ zg_al (fun j => zp_n u.2.1 rw_ (2000 + (j + 89))) k x 0) → zp_J p l e R s m args below meth c Q w u [] 53 [(6, 0, (x : Int)), (5, 0, av), (4, 0, (k : Int)), (3, 0, (its k : Int)), (2, 0, fw k), (0, 2, (a : Int)), (1, 0, p1)] [] u.1 Gt := by
              intro n
              induction n with
              | zero => intro x av h; exact absurd h (Nat.not_lt_zero _)
              | succ n ih2 =>
                intro x av hn2 hx8 ha0 ha1 hav
                refine zp_load (pc := 53) hx hb (zd_X12_guards (53, .iload 6, 2, 0, []) (List.mem_of_getElem? (i := 30) rfl)) rfl (j := 0) rfl ?_
                refine zp_const (pc := 55) hx hb (zd_X12_guards (55, .bipush 8, 2, 0, []) (List.mem_of_getElem? (i := 31) rfl)) rfl rfl ?_
                refine zp_icmp (pc := 57) (tgt := 138) hx hb (zd_X12_guards (57, .if_icmp .ge 81, 3, 0, []) (List.mem_of_getElem? (i := 32) rfl)) rfl (fun (hc46 : 8 ≤ (x : Int)) => ?_) (fun (hc46 : ¬ (8 ≤ (x : Int))) => ?_)
                · have hfin : av = 1 ↔ zon k 10 < fw k ∧ ok k := by
                    rw [hav, hok9, zg_al8]
                    constructor
                    · rintro ⟨h1, h2⟩
                      have h3 := hav.mpr ⟨h1, h2⟩
                      have hx9 : x = 8 := by omega
                      rw [hx9] at h2
                      exact ⟨h1, h2⟩
                    · rintro ⟨h1, h2⟩
                      exact ⟨h1, zg_als h2 (by omega)⟩
                  have hst := hm2 k (by omega)
                  refine zp_load (pc := 138) hx hb (zd_X12_guards (138, .iload 5, 2, 0, []) (List.mem_of_getElem? (i := 69) rfl)) rfl (j := 1) rfl ?_
                  refine zp_if (pc := 140) (tgt := 152) hx hb (zd_X12_guards (140, .ifCond .eq 12, 3, 0, []) (List.mem_of_getElem? (i := 70) rfl)) rfl (fun (hc47 : av = 0) => ?_) (fun (hc47 : ¬ (av = 0)) => ?_)
                  · refine zp_iinc (L' := [(4, 0, ((k : Int) + 1)), (6, 0, (x : Int)), (5, 0, av), (3, 0, (its k : Int)), (2, 0, (fw k)), (0, 2, (a : Int)), (1, 0, p1)]) (n := ((k : Int) + 1)) (pc := 152) hx hb hnL (zd_X12_guards (152, .iinc 4 1, 3, 0, []) (List.mem_of_getElem? (i := 76) rfl)) (j := 2) rfl (by omega) (zp_r0 (by omega) (by omega)) rfl rfl ?_
                    refine zp_goto (tgt := 26) (pc := 155) hx hb (zd_X12_guards (155, .goto (-129), 3, 0, []) (List.mem_of_getElem? (i := 77) rfl)) rfl ?_
                    have hnx := hst.2 (fun z => by have := hfin.mpr z; omega)
                    refine zp_drop (L' := [(4, 0, ((k + 1 : Nat) : Int)), (3, 0, (its (k + 1) : Int)), (2, 0, fw (k + 1)), (0, 2, (a : Int)), (1, 0, p1)]) (by simp <;> omega) ?_
                    exact ih (k + 1) (by omega) (by omega)
                  · refine zp_load (pc := 143) hx hb (zd_X12_guards (143, .iload 4, 2, 0, []) (List.mem_of_getElem? (i := 71) rfl)) rfl (j := 2) rfl ?_
                    refine zp_call (pc := 145) (how := 1) (idx := 485) (mi := 270) (S := []) hx hb hE hw heff hrm (zX_ons hW) rfl (j := 58) rfl rfl (by decide +kernel) (zd_X12_guards (145, .invokestatic 485, 3, 0, []) (List.mem_of_getElem? (i := 72) rfl)) [(k : Int)] rfl ⟨zp_o0 (by omega) (by omega) (by omega) (by omega), trivial⟩ (Nat.le_of_ble_eq_true rfl) trivial (fun al hal rno24 Po24 Go24 hexto24 hfro24 hoko24 hcso24 hpsio24 => ?_)
                    obtain rfl := List.mem_singleton.mp hal
                    have hro24 := zp_int (hoko24 _ rfl).1
                    obtain ⟨hPeo24, hGeo24, hto24⟩ := hpsio24
                    have hto24 : rno24 = zon ((k : Int)).toNat 10 := hto24
                    rw [hPeo24, hGeo24]
                    rw [Int.toNat_natCast] at hto24
                    refine zp_store (L' := [(2, 0, rno24), (6, 0, (x : Int)), (5, 0, av), (4, 0, (k : Int)), (3, 0, (its k : Int)), (0, 2, (a : Int)), (1, 0, p1)]) (pc := 148) hx hb hnL (zd_X12_guards (148, .istore_n 2, 1, 0, []) (List.mem_of_getElem? (i := 73) rfl)) rfl rfl rfl ?_
                    refine zp_load (pc := 149) hx hb (zd_X12_guards (149, .iload 4, 2, 0, []) (List.mem_of_getElem? (i := 74) rfl)) rfl (j := 3) rfl ?_
                    refine zp_store (L' := [(3, 0, (k : Int)), (2, 0, rno24), (6, 0, (x : Int)), (5, 0, av), (4, 0, (k : Int)), (0, 2, (a : Int)), (1, 0, p1)]) (pc := 151) hx hb hnL (zd_X12_guards (151, .istore_n 3, 1, 0, []) (List.mem_of_getElem? (i := 75) rfl)) rfl rfl rfl ?_
                    refine zp_iinc (L' := [(4, 0, ((k : Int) + 1)), (3, 0, (k : Int)), (2, 0, rno24), (6, 0, (x : Int)), (5, 0, av), (0, 2, (a : Int)), (1, 0, p1)]) (n := ((k : Int) + 1)) (pc := 152) hx hb hnL (zd_X12_guards (152, .iinc 4 1, 3, 0, []) (List.mem_of_getElem? (i := 76) rfl)) (j := 4) rfl (by omega) (zp_r0 (by omega) (by omega)) rfl rfl ?_
                    refine zp_goto (tgt := 26) (pc := 155) hx hb (zd_X12_guards (155, .goto (-129), 3, 0, []) (List.mem_of_getElem? (i := 77) rfl)) rfl ?_
                    have hnx := hst.1 (hfin.mp (by omega))
                    refine zp_drop (L' := [(4, 0, ((k + 1 : Nat) : Int)), (3, 0, (its (k + 1) : Int)), (2, 0, fw (k + 1)), (0, 2, (a : Int)), (1, 0, p1)]) (by simp <;> omega) ?_
                    exact ih (k + 1) (by omega) (by omega)
                · refine zp_load (pc := 60) hx hb (zd_X12_guards (60, .iload 5, 2, 0, []) (List.mem_of_getElem? (i := 33) rfl)) rfl (j := 1) rfl ?_
                  refine zp_if (pc := 62) (tgt := 138) hx hb (zd_X12_guards (62, .ifCond .eq 76, 3, 0, []) (List.mem_of_getElem? (i := 34) rfl)) rfl (fun (hc48 : av = 0) => ?_) (fun (hc48 : ¬ (av = 0)) => ?_)
                  · have hfin : av = 1 ↔ zon k 10 < fw k ∧ ok k := by
                      rw [hav, hok9, zg_al8]
                      constructor
                      · rintro ⟨h1, h2⟩
                        have h3 := hav.mpr ⟨h1, h2⟩
                        have hx9 : x = 8 := by omega
                        rw [hx9] at h2
                        exact ⟨h1, h2⟩
                      · rintro ⟨h1, h2⟩
                        exact ⟨h1, zg_als h2 (by omega)⟩
                    have hst := hm2 k (by omega)
                    refine zp_load (pc := 138) hx hb (zd_X12_guards (138, .iload 5, 2, 0, []) (List.mem_of_getElem? (i := 69) rfl)) rfl (j := 1) rfl ?_
                    refine zp_if (pc := 140) (tgt := 152) hx hb (zd_X12_guards (140, .ifCond .eq 12, 3, 0, []) (List.mem_of_getElem? (i := 70) rfl)) rfl (fun (hc49 : av = 0) => ?_) (fun (hc49 : ¬ (av = 0)) => ?_)
                    · refine zp_iinc (L' := [(4, 0, ((k : Int) + 1)), (6, 0, (x : Int)), (5, 0, av), (3, 0, (its k : Int)), (2, 0, (fw k)), (0, 2, (a : Int)), (1, 0, p1)]) (n := ((k : Int) + 1)) (pc := 152) hx hb hnL (zd_X12_guards (152, .iinc 4 1, 3, 0, []) (List.mem_of_getElem? (i := 76) rfl)) (j := 2) rfl (by omega) (zp_r0 (by omega) (by omega)) rfl rfl ?_
                      refine zp_goto (tgt := 26) (pc := 155) hx hb (zd_X12_guards (155, .goto (-129), 3, 0, []) (List.mem_of_getElem? (i := 77) rfl)) rfl ?_
                      have hnx := hst.2 (fun z => by have := hfin.mpr z; omega)
                      refine zp_drop (L' := [(4, 0, ((k + 1 : Nat) : Int)), (3, 0, (its (k + 1) : Int)), (2, 0, fw (k + 1)), (0, 2, (a : Int)), (1, 0, p1)]) (by simp <;> omega) ?_
                      exact ih (k + 1) (by omega) (by omega)
                    · refine zp_load (pc := 143) hx hb (zd_X12_guards (143, .iload 4, 2, 0, []) (List.mem_of_getElem? (i := 71) rfl)) rfl (j := 2) rfl ?_
                      refine zp_call (pc := 145) (how := 1) (idx := 485) (mi := 270) (S := []) hx hb hE hw heff hrm (zX_ons hW) rfl (j := 58) rfl rfl (by decide +kernel) (zd_X12_guards (145, .invokestatic 485, 3, 0, []) (List.mem_of_getElem? (i := 72) rfl)) [(k : Int)] rfl ⟨zp_o0 (by omega) (by omega) (by omega) (by omega), trivial⟩ (Nat.le_of_ble_eq_true rfl) trivial (fun al hal rno25 Po25 Go25 hexto25 hfro25 hoko25 hcso25 hpsio25 => ?_)
                      obtain rfl := List.mem_singleton.mp hal
                      have hro25 := zp_int (hoko25 _ rfl).1
                      obtain ⟨hPeo25, hGeo25, hto25⟩ := hpsio25
                      have hto25 : rno25 = zon ((k : Int)).toNat 10 := hto25
                      rw [hPeo25, hGeo25]
                      rw [Int.toNat_natCast] at hto25
                      refine zp_store (L' := [(2, 0, rno25), (6, 0, (x : Int)), (5, 0, av), (4, 0, (k : Int)), (3, 0, (its k : Int)), (0, 2, (a : Int)), (1, 0, p1)]) (pc := 148) hx hb hnL (zd_X12_guards (148, .istore_n 2, 1, 0, []) (List.mem_of_getElem? (i := 73) rfl)) rfl rfl rfl ?_
                      refine zp_load (pc := 149) hx hb (zd_X12_guards (149, .iload 4, 2, 0, []) (List.mem_of_getElem? (i := 74) rfl)) rfl (j := 3) rfl ?_
                      refine zp_store (L' := [(3, 0, (k : Int)), (2, 0, rno25), (6, 0, (x : Int)), (5, 0, av), (4, 0, (k : Int)), (0, 2, (a : Int)), (1, 0, p1)]) (pc := 151) hx hb hnL (zd_X12_guards (151, .istore_n 3, 1, 0, []) (List.mem_of_getElem? (i := 75) rfl)) rfl rfl rfl ?_
                      refine zp_iinc (L' := [(4, 0, ((k : Int) + 1)), (3, 0, (k : Int)), (2, 0, rno25), (6, 0, (x : Int)), (5, 0, av), (0, 2, (a : Int)), (1, 0, p1)]) (n := ((k : Int) + 1)) (pc := 152) hx hb hnL (zd_X12_guards (152, .iinc 4 1, 3, 0, []) (List.mem_of_getElem? (i := 76) rfl)) (j := 4) rfl (by omega) (zp_r0 (by omega) (by omega)) rfl rfl ?_
                      refine zp_goto (tgt := 26) (pc := 155) hx hb (zd_X12_guards (155, .goto (-129), 3, 0, []) (List.mem_of_getElem? (i := 77) rfl)) rfl ?_
                      have hnx := hst.1 (hfin.mp (by omega))
                      refine zp_drop (L' := [(4, 0, ((k + 1 : Nat) : Int)), (3, 0, (its (k + 1) : Int)), (2, 0, fw (k + 1)), (0, 2, (a : Int)), (1, 0, p1)]) (by simp <;> omega) ?_
                      exact ih (k + 1) (by omega) (by omega)
                  · refine zp_const (pc := 65) hx hb (zd_X12_guards (65, .iconst 0, 1, 0, []) (List.mem_of_getElem? (i := 35) rfl)) rfl rfl ?_
                    refine zp_store (L' := [(7, 0, 0), (6, 0, (x : Int)), (5, 0, av), (4, 0, (k : Int)), (3, 0, (its k : Int)), (2, 0, (fw k)), (0, 2, (a : Int)), (1, 0, p1)]) (pc := 66) hx hb hnL (zd_X12_guards (66, .istore 7, 2, 0, []) (List.mem_of_getElem? (i := 36) rfl)) rfl rfl rfl ?_
                    have inn : ∀ (n y : Nat) (av : Int), 9 - y < n → y ≤ x → 0 ≤ av → av ≤ 1 → (av = 1 ↔ zon k 10 < fw k ∧ zg_al (fun j => zp_n u.2.1 rw_ (2000 + (j + 89))) k x y) → zp_J p l e R s m args below meth c Q w u [] 68 [(7, 0, (y : Int)), (6, 0, (x : Int)), (5, 0, av), (4, 0, (k : Int)), (3, 0, (its k : Int)), (2, 0, fw k), (0, 2, (a : Int)), (1, 0, p1)] [] u.1 Gt := by
                      intro n
                      induction n with
                      | zero => intro y av h; exact absurd h (Nat.not_lt_zero _)
                      | succ n ih3 =>
                        intro y av hn3 hyx ha0 ha1 hav
                        refine zp_load (pc := 68) hx hb (zd_X12_guards (68, .iload 7, 2, 0, []) (List.mem_of_getElem? (i := 37) rfl)) rfl (j := 0) rfl ?_
                        refine zp_load (pc := 70) hx hb (zd_X12_guards (70, .iload 6, 2, 0, []) (List.mem_of_getElem? (i := 38) rfl)) rfl (j := 1) rfl ?_
                        refine zp_icmp (pc := 72) (tgt := 132) hx hb (zd_X12_guards (72, .if_icmp .ge 60, 3, 0, []) (List.mem_of_getElem? (i := 39) rfl)) rfl (fun (hc50 : (x : Int) ≤ (y : Int)) => ?_) (fun (hc50 : ¬ ((x : Int) ≤ (y : Int))) => ?_)
                        · refine zp_iinc (L' := [(6, 0, ((x : Int) + 1)), (7, 0, (y : Int)), (5, 0, av), (4, 0, (k : Int)), (3, 0, (its k : Int)), (2, 0, (fw k)), (0, 2, (a : Int)), (1, 0, p1)]) (n := ((x : Int) + 1)) (pc := 132) hx hb hnL (zd_X12_guards (132, .iinc 6 1, 3, 0, []) (List.mem_of_getElem? (i := 67) rfl)) (j := 1) rfl (by omega) (zp_r0 (by omega) (by omega)) rfl rfl ?_
                          refine zp_goto (tgt := 53) (pc := 135) hx hb (zd_X12_guards (135, .goto (-82), 3, 0, []) (List.mem_of_getElem? (i := 68) rfl)) rfl ?_
                          have hyx2 : y = x := by omega
                          refine zp_drop (L' := [(6, 0, ((x + 1 : Nat) : Int)), (5, 0, av), (4, 0, (k : Int)), (3, 0, (its k : Int)), (2, 0, fw k), (0, 2, (a : Int)), (1, 0, p1)]) (by simp <;> omega) ?_
                          exact ih2 (x + 1) av (by omega) (by omega) ha0 ha1 (by rw [hav, hyx2, zg_alx])
                        · refine zp_load (pc := 75) hx hb (zd_X12_guards (75, .iload 5, 2, 0, []) (List.mem_of_getElem? (i := 40) rfl)) rfl (j := 2) rfl ?_
                          refine zp_if (pc := 77) (tgt := 123) hx hb (zd_X12_guards (77, .ifCond .eq 46, 3, 0, []) (List.mem_of_getElem? (i := 41) rfl)) rfl (fun (hc51 : av = 0) => ?_) (fun (hc51 : ¬ (av = 0)) => ?_)
                          · refine zp_const (pc := 123) hx hb (zd_X12_guards (123, .iconst 0, 1, 0, []) (List.mem_of_getElem? (i := 63) rfl)) rfl rfl ?_
                            refine zp_store (L' := [(5, 0, 0), (7, 0, (y : Int)), (6, 0, (x : Int)), (4, 0, (k : Int)), (3, 0, (its k : Int)), (2, 0, (fw k)), (0, 2, (a : Int)), (1, 0, p1)]) (pc := 124) hx hb hnL (zd_X12_guards (124, .istore 5, 2, 0, []) (List.mem_of_getElem? (i := 64) rfl)) rfl rfl rfl ?_
                            refine zp_iinc (L' := [(7, 0, ((y : Int) + 1)), (5, 0, 0), (6, 0, (x : Int)), (4, 0, (k : Int)), (3, 0, (its k : Int)), (2, 0, (fw k)), (0, 2, (a : Int)), (1, 0, p1)]) (n := ((y : Int) + 1)) (pc := 126) hx hb hnL (zd_X12_guards (126, .iinc 7 1, 3, 0, []) (List.mem_of_getElem? (i := 65) rfl)) (j := 1) rfl (by omega) (zp_r0 (by omega) (by omega)) rfl rfl ?_
                            refine zp_goto (tgt := 68) (pc := 129) hx hb (zd_X12_guards (129, .goto (-61), 3, 0, []) (List.mem_of_getElem? (i := 66) rfl)) rfl ?_
                            have hcy := zg_aly (R := (fun j => zp_n u.2.1 rw_ (2000 + (j + 89)))) (k := k) (x := x) (y := y)
                            have gv := gr (2000 + (8 * x + y + 89))
                            have hnew : (0 : Int) = 1 ↔ zon k 10 < fw k ∧ zg_al (fun j => zp_n u.2.1 rw_ (2000 + (j + 89))) k x (y + 1) := by
                              rw [hcy]
                              have hd : zg_c (fun j => zp_n u.2.1 rw_ (2000 + (j + 89))) k x y ↔ (¬ zp_n u.2.1 rw_ (2000 + (8 * x + y + 89)) = 0 → zgi k x = true ∨ zgi k y = true) := Iff.rfl
                              rw [hd]
                              clear hd hcy
                              rw [← gv]
                              constructor
                              · intro h
                                first
                                | exact absurd h (by decide)
                                | (have h1 := hav.mp (by omega); exact ⟨h1.1, h1.2, fun hne => by first | (exfalso; exact hne (by assumption)) | (left; apply Iff.mp; assumption; omega) | (right; apply Iff.mp; assumption; omega)⟩)
                              · rintro ⟨h1, h2, h3⟩
                                have h4 := hav.mpr ⟨h1, h2⟩
                                first
                                | rfl
                                | (exfalso; omega)
                                | (exfalso; rcases h3 (by assumption) with h5 | h5 <;> simp_all <;> omega)
                            refine zp_drop (L' := [(7, 0, ((y + 1 : Nat) : Int)), (6, 0, (x : Int)), (5, 0, 0), (4, 0, (k : Int)), (3, 0, (its k : Int)), (2, 0, fw k), (0, 2, (a : Int)), (1, 0, p1)]) (by simp <;> omega) ?_
                            exact ih3 (y + 1) 0 (by omega) (by omega) (by decide) (by decide) hnew
                          · refine zp_load (pc := 80) hx hb (zd_X12_guards (80, .aload_n 0, 1, 0, []) (List.mem_of_getElem? (i := 42) rfl)) rfl (j := 6) rfl ?_
                            refine zp_getf (n := (rw_ : Int)) (pc := 81) hx hb hE hw (zd_X12_guards (81, .getfield 13, 3, 0, []) (List.mem_of_getElem? (i := 43) rfl)) (j := 21) rfl rfl rfl hp g3 ?_
                            refine zp_const (pc := 84) hx hb (zd_X12_guards (84, .bipush 89, 2, 0, []) (List.mem_of_getElem? (i := 44) rfl)) rfl rfl ?_
                            refine zp_const (pc := 86) hx hb (zd_X12_guards (86, .bipush 8, 2, 0, []) (List.mem_of_getElem? (i := 45) rfl)) rfl rfl ?_
                            refine zp_load (pc := 88) hx hb (zd_X12_guards (88, .iload 6, 2, 0, []) (List.mem_of_getElem? (i := 46) rfl)) rfl (j := 1) rfl ?_
                            refine zp_mul (n := (8 * (x : Int))) (pc := 90) hx hb (zd_X12_guards (90, .imul, 1, 0, []) (List.mem_of_getElem? (i := 47) rfl)) (by omega) (zp_r0 (by omega) (by omega)) ?_
                            refine zp_add (n := (8 * (x : Int) + 89)) (pc := 91) hx hb (zd_X12_guards (91, .iadd, 1, 0, []) (List.mem_of_getElem? (i := 48) rfl)) (by omega) (zp_r0 (by omega) (by omega)) ?_
                            refine zp_load (pc := 92) hx hb (zd_X12_guards (92, .iload 7, 2, 0, []) (List.mem_of_getElem? (i := 49) rfl)) rfl (j := 0) rfl ?_
                            refine zp_add (n := (8 * (x : Int) + (y : Int) + 89)) (pc := 94) hx hb (zd_X12_guards (94, .iadd, 1, 0, []) (List.mem_of_getElem? (i := 50) rfl)) (by omega) (zp_r0 (by omega) (by omega)) ?_
                            refine zp_ialdT (j := (8 * x + y + 89)) (v := (Gt rw_ (2000 + (8 * x + y + 89)))) (pc := 95) hx hb hw (zd_X12_guards (95, .iaload, 1, 0, []) (List.mem_of_getElem? (i := 51) rfl)) zl_T59 rfl (zl_kd ((8 * x + y + 89))) qrw_ (by omega) (show (8 * x + y + 89) < 5580 by omega) rfl (fun hk52 => ?_)
                            refine zp_if (pc := 96) (tgt := 119) hx hb (zd_X12_guards (96, .ifCond .eq 23, 3, 0, []) (List.mem_of_getElem? (i := 52) rfl)) rfl (fun (hc53 : (Gt rw_ (2000 + (8 * x + y + 89))) = 0) => ?_) (fun (hc53 : ¬ ((Gt rw_ (2000 + (8 * x + y + 89))) = 0)) => ?_)
                            · refine zp_const (pc := 119) hx hb (zd_X12_guards (119, .iconst 1, 1, 0, []) (List.mem_of_getElem? (i := 61) rfl)) rfl rfl ?_
                              refine zp_goto (tgt := 124) (pc := 120) hx hb (zd_X12_guards (120, .goto 4, 3, 0, []) (List.mem_of_getElem? (i := 62) rfl)) rfl ?_
                              refine zp_store (L' := [(5, 0, 1), (7, 0, (y : Int)), (6, 0, (x : Int)), (4, 0, (k : Int)), (3, 0, (its k : Int)), (2, 0, (fw k)), (0, 2, (a : Int)), (1, 0, p1)]) (pc := 124) hx hb hnL (zd_X12_guards (124, .istore 5, 2, 0, []) (List.mem_of_getElem? (i := 64) rfl)) rfl rfl rfl ?_
                              refine zp_iinc (L' := [(7, 0, ((y : Int) + 1)), (5, 0, 1), (6, 0, (x : Int)), (4, 0, (k : Int)), (3, 0, (its k : Int)), (2, 0, (fw k)), (0, 2, (a : Int)), (1, 0, p1)]) (n := ((y : Int) + 1)) (pc := 126) hx hb hnL (zd_X12_guards (126, .iinc 7 1, 3, 0, []) (List.mem_of_getElem? (i := 65) rfl)) (j := 1) rfl (by omega) (zp_r0 (by omega) (by omega)) rfl rfl ?_
                              refine zp_goto (tgt := 68) (pc := 129) hx hb (zd_X12_guards (129, .goto (-61), 3, 0, []) (List.mem_of_getElem? (i := 66) rfl)) rfl ?_
                              have hcy := zg_aly (R := (fun j => zp_n u.2.1 rw_ (2000 + (j + 89)))) (k := k) (x := x) (y := y)
                              have gv := gr (2000 + (8 * x + y + 89))
                              have hnew : (1 : Int) = 1 ↔ zon k 10 < fw k ∧ zg_al (fun j => zp_n u.2.1 rw_ (2000 + (j + 89))) k x (y + 1) := by
                                rw [hcy]
                                have hd : zg_c (fun j => zp_n u.2.1 rw_ (2000 + (j + 89))) k x y ↔ (¬ zp_n u.2.1 rw_ (2000 + (8 * x + y + 89)) = 0 → zgi k x = true ∨ zgi k y = true) := Iff.rfl
                                rw [hd]
                                clear hd hcy
                                rw [← gv]
                                constructor
                                · intro h
                                  first
                                  | exact absurd h (by decide)
                                  | (have h1 := hav.mp (by omega); exact ⟨h1.1, h1.2, fun hne => by first | (exfalso; exact hne (by assumption)) | (left; apply Iff.mp; assumption; omega) | (right; apply Iff.mp; assumption; omega)⟩)
                                · rintro ⟨h1, h2, h3⟩
                                  have h4 := hav.mpr ⟨h1, h2⟩
                                  first
                                  | rfl
                                  | (exfalso; omega)
                                  | (exfalso; rcases h3 (by assumption) with h5 | h5 <;> simp_all <;> omega)
                              refine zp_drop (L' := [(7, 0, ((y + 1 : Nat) : Int)), (6, 0, (x : Int)), (5, 0, 1), (4, 0, (k : Int)), (3, 0, (its k : Int)), (2, 0, fw k), (0, 2, (a : Int)), (1, 0, p1)]) (by simp <;> omega) ?_
                              exact ih3 (y + 1) 1 (by omega) (by omega) (by decide) (by decide) hnew
                            · refine zp_load (pc := 99) hx hb (zd_X12_guards (99, .iload 4, 2, 0, []) (List.mem_of_getElem? (i := 53) rfl)) rfl (j := 3) rfl ?_
                              refine zp_load (pc := 101) hx hb (zd_X12_guards (101, .iload 6, 2, 0, []) (List.mem_of_getElem? (i := 54) rfl)) rfl (j := 1) rfl ?_
                              refine zp_call (pc := 103) (how := 1) (idx := 468) (mi := 258) (S := []) hx hb hE hw heff hrm (zX_isx hW) rfl (j := 54) rfl rfl (by decide +kernel) (zd_X12_guards (103, .invokestatic 468, 3, 0, []) (List.mem_of_getElem? (i := 55) rfl)) [(k : Int), (x : Int)] rfl ⟨zp_o0 (by omega) (by omega) (by omega) (by omega), zp_o0 (by omega) (by omega) (by omega) (by omega), trivial⟩ (Nat.le_of_ble_eq_true rfl) trivial (fun al hal rni26 Pi26 Gi26 hexti26 hfri26 hoki26 hcsi26 hpsii26 => ?_)
                              obtain rfl := List.mem_singleton.mp hal
                              have hri26 := zp_int (hoki26 _ rfl).1
                              obtain ⟨hPei26, hGei26, hti26⟩ := hpsii26
                              have hti26 : rni26 = 1 ↔ zgi ((k : Int)).toNat ((x : Int)).toNat = true := hti26
                              rw [hPei26, hGei26]
                              rw [Int.toNat_natCast, Int.toNat_natCast] at hti26
                              refine zp_if (pc := 106) (tgt := 119) hx hb (zd_X12_guards (106, .ifCond .ne 13, 3, 0, []) (List.mem_of_getElem? (i := 56) rfl)) rfl (fun (hc54 : ¬ rni26 = 0) => ?_) (fun (hc54 : ¬ (¬ rni26 = 0)) => ?_)
                              · refine zp_const (pc := 119) hx hb (zd_X12_guards (119, .iconst 1, 1, 0, []) (List.mem_of_getElem? (i := 61) rfl)) rfl rfl ?_
                                refine zp_goto (tgt := 124) (pc := 120) hx hb (zd_X12_guards (120, .goto 4, 3, 0, []) (List.mem_of_getElem? (i := 62) rfl)) rfl ?_
                                refine zp_store (L' := [(5, 0, 1), (7, 0, (y : Int)), (6, 0, (x : Int)), (4, 0, (k : Int)), (3, 0, (its k : Int)), (2, 0, (fw k)), (0, 2, (a : Int)), (1, 0, p1)]) (pc := 124) hx hb hnL (zd_X12_guards (124, .istore 5, 2, 0, []) (List.mem_of_getElem? (i := 64) rfl)) rfl rfl rfl ?_
                                refine zp_iinc (L' := [(7, 0, ((y : Int) + 1)), (5, 0, 1), (6, 0, (x : Int)), (4, 0, (k : Int)), (3, 0, (its k : Int)), (2, 0, (fw k)), (0, 2, (a : Int)), (1, 0, p1)]) (n := ((y : Int) + 1)) (pc := 126) hx hb hnL (zd_X12_guards (126, .iinc 7 1, 3, 0, []) (List.mem_of_getElem? (i := 65) rfl)) (j := 1) rfl (by omega) (zp_r0 (by omega) (by omega)) rfl rfl ?_
                                refine zp_goto (tgt := 68) (pc := 129) hx hb (zd_X12_guards (129, .goto (-61), 3, 0, []) (List.mem_of_getElem? (i := 66) rfl)) rfl ?_
                                have hcy := zg_aly (R := (fun j => zp_n u.2.1 rw_ (2000 + (j + 89)))) (k := k) (x := x) (y := y)
                                have gv := gr (2000 + (8 * x + y + 89))
                                have hnew : (1 : Int) = 1 ↔ zon k 10 < fw k ∧ zg_al (fun j => zp_n u.2.1 rw_ (2000 + (j + 89))) k x (y + 1) := by
                                  rw [hcy]
                                  have hd : zg_c (fun j => zp_n u.2.1 rw_ (2000 + (j + 89))) k x y ↔ (¬ zp_n u.2.1 rw_ (2000 + (8 * x + y + 89)) = 0 → zgi k x = true ∨ zgi k y = true) := Iff.rfl
                                  rw [hd]
                                  clear hd hcy
                                  rw [← gv]
                                  constructor
                                  · intro h
                                    first
                                    | exact absurd h (by decide)
                                    | (have h1 := hav.mp (by omega); exact ⟨h1.1, h1.2, fun hne => by first | (exfalso; exact hne (by assumption)) | (left; apply Iff.mp; assumption; omega) | (right; apply Iff.mp; assumption; omega)⟩)
                                  · rintro ⟨h1, h2, h3⟩
                                    have h4 := hav.mpr ⟨h1, h2⟩
                                    first
                                    | rfl
                                    | (exfalso; omega)
                                    | (exfalso; rcases h3 (by assumption) with h5 | h5 <;> simp_all <;> omega)
                                refine zp_drop (L' := [(7, 0, ((y + 1 : Nat) : Int)), (6, 0, (x : Int)), (5, 0, 1), (4, 0, (k : Int)), (3, 0, (its k : Int)), (2, 0, fw k), (0, 2, (a : Int)), (1, 0, p1)]) (by simp <;> omega) ?_
                                exact ih3 (y + 1) 1 (by omega) (by omega) (by decide) (by decide) hnew
                              · refine zp_load (pc := 109) hx hb (zd_X12_guards (109, .iload 4, 2, 0, []) (List.mem_of_getElem? (i := 57) rfl)) rfl (j := 3) rfl ?_
                                refine zp_load (pc := 111) hx hb (zd_X12_guards (111, .iload 7, 2, 0, []) (List.mem_of_getElem? (i := 58) rfl)) rfl (j := 0) rfl ?_
                                refine zp_call (pc := 113) (how := 1) (idx := 468) (mi := 258) (S := []) hx hb hE hw heff hrm (zX_isx hW) rfl (j := 54) rfl rfl (by decide +kernel) (zd_X12_guards (113, .invokestatic 468, 3, 0, []) (List.mem_of_getElem? (i := 59) rfl)) [(k : Int), (y : Int)] rfl ⟨zp_o0 (by omega) (by omega) (by omega) (by omega), zp_o0 (by omega) (by omega) (by omega) (by omega), trivial⟩ (Nat.le_of_ble_eq_true rfl) trivial (fun al hal rni27 Pi27 Gi27 hexti27 hfri27 hoki27 hcsi27 hpsii27 => ?_)
                                obtain rfl := List.mem_singleton.mp hal
                                have hri27 := zp_int (hoki27 _ rfl).1
                                obtain ⟨hPei27, hGei27, hti27⟩ := hpsii27
                                have hti27 : rni27 = 1 ↔ zgi ((k : Int)).toNat ((y : Int)).toNat = true := hti27
                                rw [hPei27, hGei27]
                                rw [Int.toNat_natCast, Int.toNat_natCast] at hti27
                                refine zp_if (pc := 116) (tgt := 123) hx hb (zd_X12_guards (116, .ifCond .eq 7, 3, 0, []) (List.mem_of_getElem? (i := 60) rfl)) rfl (fun (hc55 : rni27 = 0) => ?_) (fun (hc55 : ¬ (rni27 = 0)) => ?_)
                                · refine zp_const (pc := 123) hx hb (zd_X12_guards (123, .iconst 0, 1, 0, []) (List.mem_of_getElem? (i := 63) rfl)) rfl rfl ?_
                                  refine zp_store (L' := [(5, 0, 0), (7, 0, (y : Int)), (6, 0, (x : Int)), (4, 0, (k : Int)), (3, 0, (its k : Int)), (2, 0, (fw k)), (0, 2, (a : Int)), (1, 0, p1)]) (pc := 124) hx hb hnL (zd_X12_guards (124, .istore 5, 2, 0, []) (List.mem_of_getElem? (i := 64) rfl)) rfl rfl rfl ?_
                                  refine zp_iinc (L' := [(7, 0, ((y : Int) + 1)), (5, 0, 0), (6, 0, (x : Int)), (4, 0, (k : Int)), (3, 0, (its k : Int)), (2, 0, (fw k)), (0, 2, (a : Int)), (1, 0, p1)]) (n := ((y : Int) + 1)) (pc := 126) hx hb hnL (zd_X12_guards (126, .iinc 7 1, 3, 0, []) (List.mem_of_getElem? (i := 65) rfl)) (j := 1) rfl (by omega) (zp_r0 (by omega) (by omega)) rfl rfl ?_
                                  refine zp_goto (tgt := 68) (pc := 129) hx hb (zd_X12_guards (129, .goto (-61), 3, 0, []) (List.mem_of_getElem? (i := 66) rfl)) rfl ?_
                                  have hcy := zg_aly (R := (fun j => zp_n u.2.1 rw_ (2000 + (j + 89)))) (k := k) (x := x) (y := y)
                                  have gv := gr (2000 + (8 * x + y + 89))
                                  have hnew : (0 : Int) = 1 ↔ zon k 10 < fw k ∧ zg_al (fun j => zp_n u.2.1 rw_ (2000 + (j + 89))) k x (y + 1) := by
                                    rw [hcy]
                                    have hd : zg_c (fun j => zp_n u.2.1 rw_ (2000 + (j + 89))) k x y ↔ (¬ zp_n u.2.1 rw_ (2000 + (8 * x + y + 89)) = 0 → zgi k x = true ∨ zgi k y = true) := Iff.rfl
                                    rw [hd]
                                    clear hd hcy
                                    rw [← gv]
                                    constructor
                                    · intro h
                                      first
                                      | exact absurd h (by decide)
                                      | (have h1 := hav.mp (by omega); exact ⟨h1.1, h1.2, fun hne => by first | (exfalso; exact hne (by assumption)) | (left; apply Iff.mp; assumption; omega) | (right; apply Iff.mp; assumption; omega)⟩)
                                    · rintro ⟨h1, h2, h3⟩
                                      have h4 := hav.mpr ⟨h1, h2⟩
                                      first
                                      | rfl
                                      | (exfalso; omega)
                                      | (exfalso; rcases h3 (by assumption) with h5 | h5 <;> simp_all <;> omega)
                                  refine zp_drop (L' := [(7, 0, ((y + 1 : Nat) : Int)), (6, 0, (x : Int)), (5, 0, 0), (4, 0, (k : Int)), (3, 0, (its k : Int)), (2, 0, fw k), (0, 2, (a : Int)), (1, 0, p1)]) (by simp <;> omega) ?_
                                  exact ih3 (y + 1) 0 (by omega) (by omega) (by decide) (by decide) hnew
                                · refine zp_const (pc := 119) hx hb (zd_X12_guards (119, .iconst 1, 1, 0, []) (List.mem_of_getElem? (i := 61) rfl)) rfl rfl ?_
                                  refine zp_goto (tgt := 124) (pc := 120) hx hb (zd_X12_guards (120, .goto 4, 3, 0, []) (List.mem_of_getElem? (i := 62) rfl)) rfl ?_
                                  refine zp_store (L' := [(5, 0, 1), (7, 0, (y : Int)), (6, 0, (x : Int)), (4, 0, (k : Int)), (3, 0, (its k : Int)), (2, 0, (fw k)), (0, 2, (a : Int)), (1, 0, p1)]) (pc := 124) hx hb hnL (zd_X12_guards (124, .istore 5, 2, 0, []) (List.mem_of_getElem? (i := 64) rfl)) rfl rfl rfl ?_
                                  refine zp_iinc (L' := [(7, 0, ((y : Int) + 1)), (5, 0, 1), (6, 0, (x : Int)), (4, 0, (k : Int)), (3, 0, (its k : Int)), (2, 0, (fw k)), (0, 2, (a : Int)), (1, 0, p1)]) (n := ((y : Int) + 1)) (pc := 126) hx hb hnL (zd_X12_guards (126, .iinc 7 1, 3, 0, []) (List.mem_of_getElem? (i := 65) rfl)) (j := 1) rfl (by omega) (zp_r0 (by omega) (by omega)) rfl rfl ?_
                                  refine zp_goto (tgt := 68) (pc := 129) hx hb (zd_X12_guards (129, .goto (-61), 3, 0, []) (List.mem_of_getElem? (i := 66) rfl)) rfl ?_
                                  have hcy := zg_aly (R := (fun j => zp_n u.2.1 rw_ (2000 + (j + 89)))) (k := k) (x := x) (y := y)
                                  have gv := gr (2000 + (8 * x + y + 89))
                                  have hnew : (1 : Int) = 1 ↔ zon k 10 < fw k ∧ zg_al (fun j => zp_n u.2.1 rw_ (2000 + (j + 89))) k x (y + 1) := by
                                    rw [hcy]
                                    have hd : zg_c (fun j => zp_n u.2.1 rw_ (2000 + (j + 89))) k x y ↔ (¬ zp_n u.2.1 rw_ (2000 + (8 * x + y + 89)) = 0 → zgi k x = true ∨ zgi k y = true) := Iff.rfl
                                    rw [hd]
                                    clear hd hcy
                                    rw [← gv]
                                    constructor
                                    · intro h
                                      first
                                      | exact absurd h (by decide)
                                      | (have h1 := hav.mp (by omega); exact ⟨h1.1, h1.2, fun hne => by first | (exfalso; exact hne (by assumption)) | (left; apply Iff.mp; assumption; omega) | (right; apply Iff.mp; assumption; omega)⟩)
                                    · rintro ⟨h1, h2, h3⟩
                                      have h4 := hav.mpr ⟨h1, h2⟩
                                      first
                                      | rfl
                                      | (exfalso; omega)
                                      | (exfalso; rcases h3 (by assumption) with h5 | h5 <;> simp_all <;> omega)
                                  refine zp_drop (L' := [(7, 0, ((y + 1 : Nat) : Int)), (6, 0, (x : Int)), (5, 0, 1), (4, 0, (k : Int)), (3, 0, (its k : Int)), (2, 0, fw k), (0, 2, (a : Int)), (1, 0, p1)]) (by simp <;> omega) ?_
                                  exact ih3 (y + 1) 1 (by omega) (by omega) (by decide) (by decide) hnew
                    refine zp_drop (L' := [(7, 0, ((0 : Nat) : Int)), (6, 0, (x : Int)), (5, 0, av), (4, 0, (k : Int)), (3, 0, (its k : Int)), (2, 0, fw k), (0, 2, (a : Int)), (1, 0, p1)]) (by simp) ?_
                    exact inn 10 0 av (by omega) (by omega) ha0 ha1 hav
            refine zp_drop (L' := [(6, 0, ((0 : Nat) : Int)), (5, 0, 0), (4, 0, (k : Int)), (3, 0, (its k : Int)), (2, 0, fw k), (0, 2, (a : Int)), (1, 0, p1)]) (by simp) ?_
            exact mid 10 0 0 (by omega) (by omega) (by decide) (by decide) (by
              constructor
              · intro h
                first | exact absurd h (by decide) | exact ⟨by omega, zg_al0⟩
              · rintro ⟨h1, -⟩
                first | rfl | (exfalso; omega))
          · refine zp_const (pc := 43) hx hb (zd_X12_guards (43, .iconst 1, 1, 0, []) (List.mem_of_getElem? (i := 24) rfl)) rfl rfl ?_
            refine zp_goto (tgt := 48) (pc := 44) hx hb (zd_X12_guards (44, .goto 4, 3, 0, []) (List.mem_of_getElem? (i := 25) rfl)) rfl ?_
            refine zp_store (L' := [(5, 0, 1), (4, 0, (k : Int)), (3, 0, (its k : Int)), (2, 0, (fw k)), (0, 2, (a : Int)), (1, 0, p1)]) (pc := 48) hx hb hnL (zd_X12_guards (48, .istore 5, 2, 0, []) (List.mem_of_getElem? (i := 27) rfl)) rfl rfl rfl ?_
            refine zp_const (pc := 50) hx hb (zd_X12_guards (50, .iconst 0, 1, 0, []) (List.mem_of_getElem? (i := 28) rfl)) rfl rfl ?_
            refine zp_store (L' := [(6, 0, 0), (5, 0, 1), (4, 0, (k : Int)), (3, 0, (its k : Int)), (2, 0, (fw k)), (0, 2, (a : Int)), (1, 0, p1)]) (pc := 51) hx hb hnL (zd_X12_guards (51, .istore 6, 2, 0, []) (List.mem_of_getElem? (i := 29) rfl)) rfl rfl rfl ?_
            have mid : ∀ (n x : Nat) (av : Int), 9 - x < n → x ≤ 8 → 0 ≤ av → av ≤ 1 → (av = 1 ↔ zon k 10 < fw k ∧ zg_al (fun j => zp_n u.2.1 rw_ (2000 + (j + 89))) k x 0) → zp_J p l e R s m args below meth c Q w u [] 53 [(6, 0, (x : Int)), (5, 0, av), (4, 0, (k : Int)), (3, 0, (its k : Int)), (2, 0, fw k), (0, 2, (a : Int)), (1, 0, p1)] [] u.1 Gt := by
              intro n
              induction n with
              | zero => intro x av h; exact absurd h (Nat.not_lt_zero _)
              | succ n ih2 =>
                intro x av hn2 hx8 ha0 ha1 hav
                refine zp_load (pc := 53) hx hb (zd_X12_guards (53, .iload 6, 2, 0, []) (List.mem_of_getElem? (i := 30) rfl)) rfl (j := 0) rfl ?_
                refine zp_const (pc := 55) hx hb (zd_X12_guards (55, .bipush 8, 2, 0, []) (List.mem_of_getElem? (i := 31) rfl)) rfl rfl ?_
                refine zp_icmp (pc := 57) (tgt := 138) hx hb (zd_X12_guards (57, .if_icmp .ge 81, 3, 0, []) (List.mem_of_getElem? (i := 32) rfl)) rfl (fun (hc56 : 8 ≤ (x : Int)) => ?_) (fun (hc56 : ¬ (8 ≤ (x : Int))) => ?_)
                · have hfin : av = 1 ↔ zon k 10 < fw k ∧ ok k := by
                    rw [hav, hok9, zg_al8]
                    constructor
                    · rintro ⟨h1, h2⟩
                      have h3 := hav.mpr ⟨h1, h2⟩
                      have hx9 : x = 8 := by omega
                      rw [hx9] at h2
                      exact ⟨h1, h2⟩
                    · rintro ⟨h1, h2⟩
                      exact ⟨h1, zg_als h2 (by omega)⟩
                  have hst := hm2 k (by omega)
                  refine zp_load (pc := 138) hx hb (zd_X12_guards (138, .iload 5, 2, 0, []) (List.mem_of_getElem? (i := 69) rfl)) rfl (j := 1) rfl ?_
                  refine zp_if (pc := 140) (tgt := 152) hx hb (zd_X12_guards (140, .ifCond .eq 12, 3, 0, []) (List.mem_of_getElem? (i := 70) rfl)) rfl (fun (hc57 : av = 0) => ?_) (fun (hc57 : ¬ (av = 0)) => ?_)
                  · refine zp_iinc (L' := [(4, 0, ((k : Int) + 1)), (6, 0, (x : Int)), (5, 0, av), (3, 0, (its k : Int)), (2, 0, (fw k)), (0, 2, (a : Int)), (1, 0, p1)]) (n := ((k : Int) + 1)) (pc := 152) hx hb hnL (zd_X12_guards (152, .iinc 4 1, 3, 0, []) (List.mem_of_getElem? (i := 76) rfl)) (j := 2) rfl (by omega) (zp_r0 (by omega) (by omega)) rfl rfl ?_
                    refine zp_goto (tgt := 26) (pc := 155) hx hb (zd_X12_guards (155, .goto (-129), 3, 0, []) (List.mem_of_getElem? (i := 77) rfl)) rfl ?_
                    have hnx := hst.2 (fun z => by have := hfin.mpr z; omega)
                    refine zp_drop (L' := [(4, 0, ((k + 1 : Nat) : Int)), (3, 0, (its (k + 1) : Int)), (2, 0, fw (k + 1)), (0, 2, (a : Int)), (1, 0, p1)]) (by simp <;> omega) ?_
                    exact ih (k + 1) (by omega) (by omega)
                  · refine zp_load (pc := 143) hx hb (zd_X12_guards (143, .iload 4, 2, 0, []) (List.mem_of_getElem? (i := 71) rfl)) rfl (j := 2) rfl ?_
                    refine zp_call (pc := 145) (how := 1) (idx := 485) (mi := 270) (S := []) hx hb hE hw heff hrm (zX_ons hW) rfl (j := 58) rfl rfl (by decide +kernel) (zd_X12_guards (145, .invokestatic 485, 3, 0, []) (List.mem_of_getElem? (i := 72) rfl)) [(k : Int)] rfl ⟨zp_o0 (by omega) (by omega) (by omega) (by omega), trivial⟩ (Nat.le_of_ble_eq_true rfl) trivial (fun al hal rno28 Po28 Go28 hexto28 hfro28 hoko28 hcso28 hpsio28 => ?_)
                    obtain rfl := List.mem_singleton.mp hal
                    have hro28 := zp_int (hoko28 _ rfl).1
                    obtain ⟨hPeo28, hGeo28, hto28⟩ := hpsio28
                    have hto28 : rno28 = zon ((k : Int)).toNat 10 := hto28
                    rw [hPeo28, hGeo28]
                    rw [Int.toNat_natCast] at hto28
                    refine zp_store (L' := [(2, 0, rno28), (6, 0, (x : Int)), (5, 0, av), (4, 0, (k : Int)), (3, 0, (its k : Int)), (0, 2, (a : Int)), (1, 0, p1)]) (pc := 148) hx hb hnL (zd_X12_guards (148, .istore_n 2, 1, 0, []) (List.mem_of_getElem? (i := 73) rfl)) rfl rfl rfl ?_
                    refine zp_load (pc := 149) hx hb (zd_X12_guards (149, .iload 4, 2, 0, []) (List.mem_of_getElem? (i := 74) rfl)) rfl (j := 3) rfl ?_
                    refine zp_store (L' := [(3, 0, (k : Int)), (2, 0, rno28), (6, 0, (x : Int)), (5, 0, av), (4, 0, (k : Int)), (0, 2, (a : Int)), (1, 0, p1)]) (pc := 151) hx hb hnL (zd_X12_guards (151, .istore_n 3, 1, 0, []) (List.mem_of_getElem? (i := 75) rfl)) rfl rfl rfl ?_
                    refine zp_iinc (L' := [(4, 0, ((k : Int) + 1)), (3, 0, (k : Int)), (2, 0, rno28), (6, 0, (x : Int)), (5, 0, av), (0, 2, (a : Int)), (1, 0, p1)]) (n := ((k : Int) + 1)) (pc := 152) hx hb hnL (zd_X12_guards (152, .iinc 4 1, 3, 0, []) (List.mem_of_getElem? (i := 76) rfl)) (j := 4) rfl (by omega) (zp_r0 (by omega) (by omega)) rfl rfl ?_
                    refine zp_goto (tgt := 26) (pc := 155) hx hb (zd_X12_guards (155, .goto (-129), 3, 0, []) (List.mem_of_getElem? (i := 77) rfl)) rfl ?_
                    have hnx := hst.1 (hfin.mp (by omega))
                    refine zp_drop (L' := [(4, 0, ((k + 1 : Nat) : Int)), (3, 0, (its (k + 1) : Int)), (2, 0, fw (k + 1)), (0, 2, (a : Int)), (1, 0, p1)]) (by simp <;> omega) ?_
                    exact ih (k + 1) (by omega) (by omega)
                · refine zp_load (pc := 60) hx hb (zd_X12_guards (60, .iload 5, 2, 0, []) (List.mem_of_getElem? (i := 33) rfl)) rfl (j := 1) rfl ?_
                  refine zp_if (pc := 62) (tgt := 138) hx hb (zd_X12_guards (62, .ifCond .eq 76, 3, 0, []) (List.mem_of_getElem? (i := 34) rfl)) rfl (fun (hc58 : av = 0) => ?_) (fun (hc58 : ¬ (av = 0)) => ?_)
                  · have hfin : av = 1 ↔ zon k 10 < fw k ∧ ok k := by
                      rw [hav, hok9, zg_al8]
                      constructor
                      · rintro ⟨h1, h2⟩
                        have h3 := hav.mpr ⟨h1, h2⟩
                        have hx9 : x = 8 := by omega
                        rw [hx9] at h2
                        exact ⟨h1, h2⟩
                      · rintro ⟨h1, h2⟩
                        exact ⟨h1, zg_als h2 (by omega)⟩
                    have hst := hm2 k (by omega)
                    refine zp_load (pc := 138) hx hb (zd_X12_guards (138, .iload 5, 2, 0, []) (List.mem_of_getElem? (i := 69) rfl)) rfl (j := 1) rfl ?_
                    refine zp_if (pc := 140) (tgt := 152) hx hb (zd_X12_guards (140, .ifCond .eq 12, 3, 0, []) (List.mem_of_getElem? (i := 70) rfl)) rfl (fun (hc59 : av = 0) => ?_) (fun (hc59 : ¬ (av = 0)) => ?_)
                    · refine zp_iinc (L' := [(4, 0, ((k : Int) + 1)), (6, 0, (x : Int)), (5, 0, av), (3, 0, (its k : Int)), (2, 0, (fw k)), (0, 2, (a : Int)), (1, 0, p1)]) (n := ((k : Int) + 1)) (pc := 152) hx hb hnL (zd_X12_guards (152, .iinc 4 1, 3, 0, []) (List.mem_of_getElem? (i := 76) rfl)) (j := 2) rfl (by omega) (zp_r0 (by omega) (by omega)) rfl rfl ?_
                      refine zp_goto (tgt := 26) (pc := 155) hx hb (zd_X12_guards (155, .goto (-129), 3, 0, []) (List.mem_of_getElem? (i := 77) rfl)) rfl ?_
                      have hnx := hst.2 (fun z => by have := hfin.mpr z; omega)
                      refine zp_drop (L' := [(4, 0, ((k + 1 : Nat) : Int)), (3, 0, (its (k + 1) : Int)), (2, 0, fw (k + 1)), (0, 2, (a : Int)), (1, 0, p1)]) (by simp <;> omega) ?_
                      exact ih (k + 1) (by omega) (by omega)
                    · refine zp_load (pc := 143) hx hb (zd_X12_guards (143, .iload 4, 2, 0, []) (List.mem_of_getElem? (i := 71) rfl)) rfl (j := 2) rfl ?_
                      refine zp_call (pc := 145) (how := 1) (idx := 485) (mi := 270) (S := []) hx hb hE hw heff hrm (zX_ons hW) rfl (j := 58) rfl rfl (by decide +kernel) (zd_X12_guards (145, .invokestatic 485, 3, 0, []) (List.mem_of_getElem? (i := 72) rfl)) [(k : Int)] rfl ⟨zp_o0 (by omega) (by omega) (by omega) (by omega), trivial⟩ (Nat.le_of_ble_eq_true rfl) trivial (fun al hal rno29 Po29 Go29 hexto29 hfro29 hoko29 hcso29 hpsio29 => ?_)
                      obtain rfl := List.mem_singleton.mp hal
                      have hro29 := zp_int (hoko29 _ rfl).1
                      obtain ⟨hPeo29, hGeo29, hto29⟩ := hpsio29
                      have hto29 : rno29 = zon ((k : Int)).toNat 10 := hto29
                      rw [hPeo29, hGeo29]
                      rw [Int.toNat_natCast] at hto29
                      refine zp_store (L' := [(2, 0, rno29), (6, 0, (x : Int)), (5, 0, av), (4, 0, (k : Int)), (3, 0, (its k : Int)), (0, 2, (a : Int)), (1, 0, p1)]) (pc := 148) hx hb hnL (zd_X12_guards (148, .istore_n 2, 1, 0, []) (List.mem_of_getElem? (i := 73) rfl)) rfl rfl rfl ?_
                      refine zp_load (pc := 149) hx hb (zd_X12_guards (149, .iload 4, 2, 0, []) (List.mem_of_getElem? (i := 74) rfl)) rfl (j := 3) rfl ?_
                      refine zp_store (L' := [(3, 0, (k : Int)), (2, 0, rno29), (6, 0, (x : Int)), (5, 0, av), (4, 0, (k : Int)), (0, 2, (a : Int)), (1, 0, p1)]) (pc := 151) hx hb hnL (zd_X12_guards (151, .istore_n 3, 1, 0, []) (List.mem_of_getElem? (i := 75) rfl)) rfl rfl rfl ?_
                      refine zp_iinc (L' := [(4, 0, ((k : Int) + 1)), (3, 0, (k : Int)), (2, 0, rno29), (6, 0, (x : Int)), (5, 0, av), (0, 2, (a : Int)), (1, 0, p1)]) (n := ((k : Int) + 1)) (pc := 152) hx hb hnL (zd_X12_guards (152, .iinc 4 1, 3, 0, []) (List.mem_of_getElem? (i := 76) rfl)) (j := 4) rfl (by omega) (zp_r0 (by omega) (by omega)) rfl rfl ?_
                      refine zp_goto (tgt := 26) (pc := 155) hx hb (zd_X12_guards (155, .goto (-129), 3, 0, []) (List.mem_of_getElem? (i := 77) rfl)) rfl ?_
                      have hnx := hst.1 (hfin.mp (by omega))
                      refine zp_drop (L' := [(4, 0, ((k + 1 : Nat) : Int)), (3, 0, (its (k + 1) : Int)), (2, 0, fw (k + 1)), (0, 2, (a : Int)), (1, 0, p1)]) (by simp <;> omega) ?_
                      exact ih (k + 1) (by omega) (by omega)
                  · refine zp_const (pc := 65) hx hb (zd_X12_guards (65, .iconst 0, 1, 0, []) (List.mem_of_getElem? (i := 35) rfl)) rfl rfl ?_
                    refine zp_store (L' := [(7, 0, 0), (6, 0, (x : Int)), (5, 0, av), (4, 0, (k : Int)), (3, 0, (its k : Int)), (2, 0, (fw k)), (0, 2, (a : Int)), (1, 0, p1)]) (pc := 66) hx hb hnL (zd_X12_guards (66, .istore 7, 2, 0, []) (List.mem_of_getElem? (i := 36) rfl)) rfl rfl rfl ?_
                    have inn : ∀ (n y : Nat) (av : Int), 9 - y < n → y ≤ x → 0 ≤ av → av ≤ 1 → (av = 1 ↔ zon k 10 < fw k ∧ zg_al (fun j => zp_n u.2.1 rw_ (2000 + (j + 89))) k x y) → zp_J p l e R s m args below meth c Q w u [] 68 [(7, 0, (y : Int)), (6, 0, (x : Int)), (5, 0, av), (4, 0, (k : Int)), (3, 0, (its k : Int)), (2, 0, fw k), (0, 2, (a : Int)), (1, 0, p1)] [] u.1 Gt := by
                      intro n
                      induction n with
                      | zero => intro y av h; exact absurd h (Nat.not_lt_zero _)
                      | succ n ih3 =>
                        intro y av hn3 hyx ha0 ha1 hav
                        refine zp_load (pc := 68) hx hb (zd_X12_guards (68, .iload 7, 2, 0, []) (List.mem_of_getElem? (i := 37) rfl)) rfl (j := 0) rfl ?_
                        refine zp_load (pc := 70) hx hb (zd_X12_guards (70, .iload 6, 2, 0, []) (List.mem_of_getElem? (i := 38) rfl)) rfl (j := 1) rfl ?_
                        refine zp_icmp (pc := 72) (tgt := 132) hx hb (zd_X12_guards (72, .if_icmp .ge 60, 3, 0, []) (List.mem_of_getElem? (i := 39) rfl)) rfl (fun (hc60 : (x : Int) ≤ (y : Int)) => ?_) (fun (hc60 : ¬ ((x : Int) ≤ (y : Int))) => ?_)
                        · refine zp_iinc (L' := [(6, 0, ((x : Int) + 1)), (7, 0, (y : Int)), (5, 0, av), (4, 0, (k : Int)), (3, 0, (its k : Int)), (2, 0, (fw k)), (0, 2, (a : Int)), (1, 0, p1)]) (n := ((x : Int) + 1)) (pc := 132) hx hb hnL (zd_X12_guards (132, .iinc 6 1, 3, 0, []) (List.mem_of_getElem? (i := 67) rfl)) (j := 1) rfl (by omega) (zp_r0 (by omega) (by omega)) rfl rfl ?_
                          refine zp_goto (tgt := 53) (pc := 135) hx hb (zd_X12_guards (135, .goto (-82), 3, 0, []) (List.mem_of_getElem? (i := 68) rfl)) rfl ?_
                          have hyx2 : y = x := by omega
                          refine zp_drop (L' := [(6, 0, ((x + 1 : Nat) : Int)), (5, 0, av), (4, 0, (k : Int)), (3, 0, (its k : Int)), (2, 0, fw k), (0, 2, (a : Int)), (1, 0, p1)]) (by simp <;> omega) ?_
                          exact ih2 (x + 1) av (by omega) (by omega) ha0 ha1 (by rw [hav, hyx2, zg_alx])
                        · refine zp_load (pc := 75) hx hb (zd_X12_guards (75, .iload 5, 2, 0, []) (List.mem_of_getElem? (i := 40) rfl)) rfl (j := 2) rfl ?_
                          refine zp_if (pc := 77) (tgt := 123) hx hb (zd_X12_guards (77, .ifCond .eq 46, 3, 0, []) (List.mem_of_getElem? (i := 41) rfl)) rfl (fun (hc61 : av = 0) => ?_) (fun (hc61 : ¬ (av = 0)) => ?_)
                          · refine zp_const (pc := 123) hx hb (zd_X12_guards (123, .iconst 0, 1, 0, []) (List.mem_of_getElem? (i := 63) rfl)) rfl rfl ?_
                            refine zp_store (L' := [(5, 0, 0), (7, 0, (y : Int)), (6, 0, (x : Int)), (4, 0, (k : Int)), (3, 0, (its k : Int)), (2, 0, (fw k)), (0, 2, (a : Int)), (1, 0, p1)]) (pc := 124) hx hb hnL (zd_X12_guards (124, .istore 5, 2, 0, []) (List.mem_of_getElem? (i := 64) rfl)) rfl rfl rfl ?_
                            refine zp_iinc (L' := [(7, 0, ((y : Int) + 1)), (5, 0, 0), (6, 0, (x : Int)), (4, 0, (k : Int)), (3, 0, (its k : Int)), (2, 0, (fw k)), (0, 2, (a : Int)), (1, 0, p1)]) (n := ((y : Int) + 1)) (pc := 126) hx hb hnL (zd_X12_guards (126, .iinc 7 1, 3, 0, []) (List.mem_of_getElem? (i := 65) rfl)) (j := 1) rfl (by omega) (zp_r0 (by omega) (by omega)) rfl rfl ?_
                            refine zp_goto (tgt := 68) (pc := 129) hx hb (zd_X12_guards (129, .goto (-61), 3, 0, []) (List.mem_of_getElem? (i := 66) rfl)) rfl ?_
                            have hcy := zg_aly (R := (fun j => zp_n u.2.1 rw_ (2000 + (j + 89)))) (k := k) (x := x) (y := y)
                            have gv := gr (2000 + (8 * x + y + 89))
                            have hnew : (0 : Int) = 1 ↔ zon k 10 < fw k ∧ zg_al (fun j => zp_n u.2.1 rw_ (2000 + (j + 89))) k x (y + 1) := by
                              rw [hcy]
                              have hd : zg_c (fun j => zp_n u.2.1 rw_ (2000 + (j + 89))) k x y ↔ (¬ zp_n u.2.1 rw_ (2000 + (8 * x + y + 89)) = 0 → zgi k x = true ∨ zgi k y = true) := Iff.rfl
                              rw [hd]
                              clear hd hcy
                              rw [← gv]
                              constructor
                              · intro h
                                first
                                | exact absurd h (by decide)
                                | (have h1 := hav.mp (by omega); exact ⟨h1.1, h1.2, fun hne => by first | (exfalso; exact hne (by assumption)) | (left; apply Iff.mp; assumption; omega) | (right; apply Iff.mp; assumption; omega)⟩)
                              · rintro ⟨h1, h2, h3⟩
                                have h4 := hav.mpr ⟨h1, h2⟩
                                first
                                | rfl
                                | (exfalso; omega)
                                | (exfalso; rcases h3 (by assumption) with h5 | h5 <;> simp_all <;> omega)
                            refine zp_drop (L' := [(7, 0, ((y + 1 : Nat) : Int)), (6, 0, (x : Int)), (5, 0, 0), (4, 0, (k : Int)), (3, 0, (its k : Int)), (2, 0, fw k), (0, 2, (a : Int)), (1, 0, p1)]) (by simp <;> omega) ?_
                            exact ih3 (y + 1) 0 (by omega) (by omega) (by decide) (by decide) hnew
                          · refine zp_load (pc := 80) hx hb (zd_X12_guards (80, .aload_n 0, 1, 0, []) (List.mem_of_getElem? (i := 42) rfl)) rfl (j := 6) rfl ?_
                            refine zp_getf (n := (rw_ : Int)) (pc := 81) hx hb hE hw (zd_X12_guards (81, .getfield 13, 3, 0, []) (List.mem_of_getElem? (i := 43) rfl)) (j := 21) rfl rfl rfl hp g3 ?_
                            refine zp_const (pc := 84) hx hb (zd_X12_guards (84, .bipush 89, 2, 0, []) (List.mem_of_getElem? (i := 44) rfl)) rfl rfl ?_
                            refine zp_const (pc := 86) hx hb (zd_X12_guards (86, .bipush 8, 2, 0, []) (List.mem_of_getElem? (i := 45) rfl)) rfl rfl ?_
                            refine zp_load (pc := 88) hx hb (zd_X12_guards (88, .iload 6, 2, 0, []) (List.mem_of_getElem? (i := 46) rfl)) rfl (j := 1) rfl ?_
                            refine zp_mul (n := (8 * (x : Int))) (pc := 90) hx hb (zd_X12_guards (90, .imul, 1, 0, []) (List.mem_of_getElem? (i := 47) rfl)) (by omega) (zp_r0 (by omega) (by omega)) ?_
                            refine zp_add (n := (8 * (x : Int) + 89)) (pc := 91) hx hb (zd_X12_guards (91, .iadd, 1, 0, []) (List.mem_of_getElem? (i := 48) rfl)) (by omega) (zp_r0 (by omega) (by omega)) ?_
                            refine zp_load (pc := 92) hx hb (zd_X12_guards (92, .iload 7, 2, 0, []) (List.mem_of_getElem? (i := 49) rfl)) rfl (j := 0) rfl ?_
                            refine zp_add (n := (8 * (x : Int) + (y : Int) + 89)) (pc := 94) hx hb (zd_X12_guards (94, .iadd, 1, 0, []) (List.mem_of_getElem? (i := 50) rfl)) (by omega) (zp_r0 (by omega) (by omega)) ?_
                            refine zp_ialdT (j := (8 * x + y + 89)) (v := (Gt rw_ (2000 + (8 * x + y + 89)))) (pc := 95) hx hb hw (zd_X12_guards (95, .iaload, 1, 0, []) (List.mem_of_getElem? (i := 51) rfl)) zl_T59 rfl (zl_kd ((8 * x + y + 89))) qrw_ (by omega) (show (8 * x + y + 89) < 5580 by omega) rfl (fun hk62 => ?_)
                            refine zp_if (pc := 96) (tgt := 119) hx hb (zd_X12_guards (96, .ifCond .eq 23, 3, 0, []) (List.mem_of_getElem? (i := 52) rfl)) rfl (fun (hc63 : (Gt rw_ (2000 + (8 * x + y + 89))) = 0) => ?_) (fun (hc63 : ¬ ((Gt rw_ (2000 + (8 * x + y + 89))) = 0)) => ?_)
                            · refine zp_const (pc := 119) hx hb (zd_X12_guards (119, .iconst 1, 1, 0, []) (List.mem_of_getElem? (i := 61) rfl)) rfl rfl ?_
                              refine zp_goto (tgt := 124) (pc := 120) hx hb (zd_X12_guards (120, .goto 4, 3, 0, []) (List.mem_of_getElem? (i := 62) rfl)) rfl ?_
                              refine zp_store (L' := [(5, 0, 1), (7, 0, (y : Int)), (6, 0, (x : Int)), (4, 0, (k : Int)), (3, 0, (its k : Int)), (2, 0, (fw k)), (0, 2, (a : Int)), (1, 0, p1)]) (pc := 124) hx hb hnL (zd_X12_guards (124, .istore 5, 2, 0, []) (List.mem_of_getElem? (i := 64) rfl)) rfl rfl rfl ?_
                              refine zp_iinc (L' := [(7, 0, ((y : Int) + 1)), (5, 0, 1), (6, 0, (x : Int)), (4, 0, (k : Int)), (3, 0, (its k : Int)), (2, 0, (fw k)), (0, 2, (a : Int)), (1, 0, p1)]) (n := ((y : Int) + 1)) (pc := 126) hx hb hnL (zd_X12_guards (126, .iinc 7 1, 3, 0, []) (List.mem_of_getElem? (i := 65) rfl)) (j := 1) rfl (by omega) (zp_r0 (by omega) (by omega)) rfl rfl ?_
                              refine zp_goto (tgt := 68) (pc := 129) hx hb (zd_X12_guards (129, .goto (-61), 3, 0, []) (List.mem_of_getElem? (i := 66) rfl)) rfl ?_
                              have hcy := zg_aly (R := (fun j => zp_n u.2.1 rw_ (2000 + (j + 89)))) (k := k) (x := x) (y := y)
                              have gv := gr (2000 + (8 * x + y + 89))
                              have hnew : (1 : Int) = 1 ↔ zon k 10 < fw k ∧ zg_al (fun j => zp_n u.2.1 rw_ (2000 + (j + 89))) k x (y + 1) := by
                                rw [hcy]
                                have hd : zg_c (fun j => zp_n u.2.1 rw_ (2000 + (j + 89))) k x y ↔ (¬ zp_n u.2.1 rw_ (2000 + (8 * x + y + 89)) = 0 → zgi k x = true ∨ zgi k y = true) := Iff.rfl
                                rw [hd]
                                clear hd hcy
                                rw [← gv]
                                constructor
                                · intro h
                                  first
                                  | exact absurd h (by decide)
                                  | (have h1 := hav.mp (by omega); exact ⟨h1.1, h1.2, fun hne => by first | (exfalso; exact hne (by assumption)) | (left; apply Iff.mp; assumption; omega) | (right; apply Iff.mp; assumption; omega)⟩)
                                · rintro ⟨h1, h2, h3⟩
                                  have h4 := hav.mpr ⟨h1, h2⟩
                                  first
                                  | rfl
                                  | (exfalso; omega)
                                  | (exfalso; rcases h3 (by assumption) with h5 | h5 <;> simp_all <;> omega)
                              refine zp_drop (L' := [(7, 0, ((y + 1 : Nat) : Int)), (6, 0, (x : Int)), (5, 0, 1), (4, 0, (k : Int)), (3, 0, (its k : Int)), (2, 0, fw k), (0, 2, (a : Int)), (1, 0, p1)]) (by simp <;> omega) ?_
                              exact ih3 (y + 1) 1 (by omega) (by omega) (by decide) (by decide) hnew
                            · refine zp_load (pc := 99) hx hb (zd_X12_guards (99, .iload 4, 2, 0, []) (List.mem_of_getElem? (i := 53) rfl)) rfl (j := 3) rfl ?_
                              refine zp_load (pc := 101) hx hb (zd_X12_guards (101, .iload 6, 2, 0, []) (List.mem_of_getElem? (i := 54) rfl)) rfl (j := 1) rfl ?_
                              refine zp_call (pc := 103) (how := 1) (idx := 468) (mi := 258) (S := []) hx hb hE hw heff hrm (zX_isx hW) rfl (j := 54) rfl rfl (by decide +kernel) (zd_X12_guards (103, .invokestatic 468, 3, 0, []) (List.mem_of_getElem? (i := 55) rfl)) [(k : Int), (x : Int)] rfl ⟨zp_o0 (by omega) (by omega) (by omega) (by omega), zp_o0 (by omega) (by omega) (by omega) (by omega), trivial⟩ (Nat.le_of_ble_eq_true rfl) trivial (fun al hal rni30 Pi30 Gi30 hexti30 hfri30 hoki30 hcsi30 hpsii30 => ?_)
                              obtain rfl := List.mem_singleton.mp hal
                              have hri30 := zp_int (hoki30 _ rfl).1
                              obtain ⟨hPei30, hGei30, hti30⟩ := hpsii30
                              have hti30 : rni30 = 1 ↔ zgi ((k : Int)).toNat ((x : Int)).toNat = true := hti30
                              rw [hPei30, hGei30]
                              rw [Int.toNat_natCast, Int.toNat_natCast] at hti30
                              refine zp_if (pc := 106) (tgt := 119) hx hb (zd_X12_guards (106, .ifCond .ne 13, 3, 0, []) (List.mem_of_getElem? (i := 56) rfl)) rfl (fun (hc64 : ¬ rni30 = 0) => ?_) (fun (hc64 : ¬ (¬ rni30 = 0)) => ?_)
                              · refine zp_const (pc := 119) hx hb (zd_X12_guards (119, .iconst 1, 1, 0, []) (List.mem_of_getElem? (i := 61) rfl)) rfl rfl ?_
                                refine zp_goto (tgt := 124) (pc := 120) hx hb (zd_X12_guards (120, .goto 4, 3, 0, []) (List.mem_of_getElem? (i := 62) rfl)) rfl ?_
                                refine zp_store (L' := [(5, 0, 1), (7, 0, (y : Int)), (6, 0, (x : Int)), (4, 0, (k : Int)), (3, 0, (its k : Int)), (2, 0, (fw k)), (0, 2, (a : Int)), (1, 0, p1)]) (pc := 124) hx hb hnL (zd_X12_guards (124, .istore 5, 2, 0, []) (List.mem_of_getElem? (i := 64) rfl)) rfl rfl rfl ?_
                                refine zp_iinc (L' := [(7, 0, ((y : Int) + 1)), (5, 0, 1), (6, 0, (x : Int)), (4, 0, (k : Int)), (3, 0, (its k : Int)), (2, 0, (fw k)), (0, 2, (a : Int)), (1, 0, p1)]) (n := ((y : Int) + 1)) (pc := 126) hx hb hnL (zd_X12_guards (126, .iinc 7 1, 3, 0, []) (List.mem_of_getElem? (i := 65) rfl)) (j := 1) rfl (by omega) (zp_r0 (by omega) (by omega)) rfl rfl ?_
                                refine zp_goto (tgt := 68) (pc := 129) hx hb (zd_X12_guards (129, .goto (-61), 3, 0, []) (List.mem_of_getElem? (i := 66) rfl)) rfl ?_
                                have hcy := zg_aly (R := (fun j => zp_n u.2.1 rw_ (2000 + (j + 89)))) (k := k) (x := x) (y := y)
                                have gv := gr (2000 + (8 * x + y + 89))
                                have hnew : (1 : Int) = 1 ↔ zon k 10 < fw k ∧ zg_al (fun j => zp_n u.2.1 rw_ (2000 + (j + 89))) k x (y + 1) := by
                                  rw [hcy]
                                  have hd : zg_c (fun j => zp_n u.2.1 rw_ (2000 + (j + 89))) k x y ↔ (¬ zp_n u.2.1 rw_ (2000 + (8 * x + y + 89)) = 0 → zgi k x = true ∨ zgi k y = true) := Iff.rfl
                                  rw [hd]
                                  clear hd hcy
                                  rw [← gv]
                                  constructor
                                  · intro h
                                    first
                                    | exact absurd h (by decide)
                                    | (have h1 := hav.mp (by omega); exact ⟨h1.1, h1.2, fun hne => by first | (exfalso; exact hne (by assumption)) | (left; apply Iff.mp; assumption; omega) | (right; apply Iff.mp; assumption; omega)⟩)
                                  · rintro ⟨h1, h2, h3⟩
                                    have h4 := hav.mpr ⟨h1, h2⟩
                                    first
                                    | rfl
                                    | (exfalso; omega)
                                    | (exfalso; rcases h3 (by assumption) with h5 | h5 <;> simp_all <;> omega)
                                refine zp_drop (L' := [(7, 0, ((y + 1 : Nat) : Int)), (6, 0, (x : Int)), (5, 0, 1), (4, 0, (k : Int)), (3, 0, (its k : Int)), (2, 0, fw k), (0, 2, (a : Int)), (1, 0, p1)]) (by simp <;> omega) ?_
                                exact ih3 (y + 1) 1 (by omega) (by omega) (by decide) (by decide) hnew
                              · refine zp_load (pc := 109) hx hb (zd_X12_guards (109, .iload 4, 2, 0, []) (List.mem_of_getElem? (i := 57) rfl)) rfl (j := 3) rfl ?_
                                refine zp_load (pc := 111) hx hb (zd_X12_guards (111, .iload 7, 2, 0, []) (List.mem_of_getElem? (i := 58) rfl)) rfl (j := 0) rfl ?_
                                refine zp_call (pc := 113) (how := 1) (idx := 468) (mi := 258) (S := []) hx hb hE hw heff hrm (zX_isx hW) rfl (j := 54) rfl rfl (by decide +kernel) (zd_X12_guards (113, .invokestatic 468, 3, 0, []) (List.mem_of_getElem? (i := 59) rfl)) [(k : Int), (y : Int)] rfl ⟨zp_o0 (by omega) (by omega) (by omega) (by omega), zp_o0 (by omega) (by omega) (by omega) (by omega), trivial⟩ (Nat.le_of_ble_eq_true rfl) trivial (fun al hal rni31 Pi31 Gi31 hexti31 hfri31 hoki31 hcsi31 hpsii31 => ?_)
                                obtain rfl := List.mem_singleton.mp hal
                                have hri31 := zp_int (hoki31 _ rfl).1
                                obtain ⟨hPei31, hGei31, hti31⟩ := hpsii31
                                have hti31 : rni31 = 1 ↔ zgi ((k : Int)).toNat ((y : Int)).toNat = true := hti31
                                rw [hPei31, hGei31]
                                rw [Int.toNat_natCast, Int.toNat_natCast] at hti31
                                refine zp_if (pc := 116) (tgt := 123) hx hb (zd_X12_guards (116, .ifCond .eq 7, 3, 0, []) (List.mem_of_getElem? (i := 60) rfl)) rfl (fun (hc65 : rni31 = 0) => ?_) (fun (hc65 : ¬ (rni31 = 0)) => ?_)
                                · refine zp_const (pc := 123) hx hb (zd_X12_guards (123, .iconst 0, 1, 0, []) (List.mem_of_getElem? (i := 63) rfl)) rfl rfl ?_
                                  refine zp_store (L' := [(5, 0, 0), (7, 0, (y : Int)), (6, 0, (x : Int)), (4, 0, (k : Int)), (3, 0, (its k : Int)), (2, 0, (fw k)), (0, 2, (a : Int)), (1, 0, p1)]) (pc := 124) hx hb hnL (zd_X12_guards (124, .istore 5, 2, 0, []) (List.mem_of_getElem? (i := 64) rfl)) rfl rfl rfl ?_
                                  refine zp_iinc (L' := [(7, 0, ((y : Int) + 1)), (5, 0, 0), (6, 0, (x : Int)), (4, 0, (k : Int)), (3, 0, (its k : Int)), (2, 0, (fw k)), (0, 2, (a : Int)), (1, 0, p1)]) (n := ((y : Int) + 1)) (pc := 126) hx hb hnL (zd_X12_guards (126, .iinc 7 1, 3, 0, []) (List.mem_of_getElem? (i := 65) rfl)) (j := 1) rfl (by omega) (zp_r0 (by omega) (by omega)) rfl rfl ?_
                                  refine zp_goto (tgt := 68) (pc := 129) hx hb (zd_X12_guards (129, .goto (-61), 3, 0, []) (List.mem_of_getElem? (i := 66) rfl)) rfl ?_
                                  have hcy := zg_aly (R := (fun j => zp_n u.2.1 rw_ (2000 + (j + 89)))) (k := k) (x := x) (y := y)
                                  have gv := gr (2000 + (8 * x + y + 89))
                                  have hnew : (0 : Int) = 1 ↔ zon k 10 < fw k ∧ zg_al (fun j => zp_n u.2.1 rw_ (2000 + (j + 89))) k x (y + 1) := by
                                    rw [hcy]
                                    have hd : zg_c (fun j => zp_n u.2.1 rw_ (2000 + (j + 89))) k x y ↔ (¬ zp_n u.2.1 rw_ (2000 + (8 * x + y + 89)) = 0 → zgi k x = true ∨ zgi k y = true) := Iff.rfl
                                    rw [hd]
                                    clear hd hcy
                                    rw [← gv]
                                    constructor
                                    · intro h
                                      first
                                      | exact absurd h (by decide)
                                      | (have h1 := hav.mp (by omega); exact ⟨h1.1, h1.2, fun hne => by first | (exfalso; exact hne (by assumption)) | (left; apply Iff.mp; assumption; omega) | (right; apply Iff.mp; assumption; omega)⟩)
                                    · rintro ⟨h1, h2, h3⟩
                                      have h4 := hav.mpr ⟨h1, h2⟩
                                      first
                                      | rfl
                                      | (exfalso; omega)
                                      | (exfalso; rcases h3 (by assumption) with h5 | h5 <;> simp_all <;> omega)
                                  refine zp_drop (L' := [(7, 0, ((y + 1 : Nat) : Int)), (6, 0, (x : Int)), (5, 0, 0), (4, 0, (k : Int)), (3, 0, (its k : Int)), (2, 0, fw k), (0, 2, (a : Int)), (1, 0, p1)]) (by simp <;> omega) ?_
                                  exact ih3 (y + 1) 0 (by omega) (by omega) (by decide) (by decide) hnew
                                · refine zp_const (pc := 119) hx hb (zd_X12_guards (119, .iconst 1, 1, 0, []) (List.mem_of_getElem? (i := 61) rfl)) rfl rfl ?_
                                  refine zp_goto (tgt := 124) (pc := 120) hx hb (zd_X12_guards (120, .goto 4, 3, 0, []) (List.mem_of_getElem? (i := 62) rfl)) rfl ?_
                                  refine zp_store (L' := [(5, 0, 1), (7, 0, (y : Int)), (6, 0, (x : Int)), (4, 0, (k : Int)), (3, 0, (its k : Int)), (2, 0, (fw k)), (0, 2, (a : Int)), (1, 0, p1)]) (pc := 124) hx hb hnL (zd_X12_guards (124, .istore 5, 2, 0, []) (List.mem_of_getElem? (i := 64) rfl)) rfl rfl rfl ?_
                                  refine zp_iinc (L' := [(7, 0, ((y : Int) + 1)), (5, 0, 1), (6, 0, (x : Int)), (4, 0, (k : Int)), (3, 0, (its k : Int)), (2, 0, (fw k)), (0, 2, (a : Int)), (1, 0, p1)]) (n := ((y : Int) + 1)) (pc := 126) hx hb hnL (zd_X12_guards (126, .iinc 7 1, 3, 0, []) (List.mem_of_getElem? (i := 65) rfl)) (j := 1) rfl (by omega) (zp_r0 (by omega) (by omega)) rfl rfl ?_
                                  refine zp_goto (tgt := 68) (pc := 129) hx hb (zd_X12_guards (129, .goto (-61), 3, 0, []) (List.mem_of_getElem? (i := 66) rfl)) rfl ?_
                                  have hcy := zg_aly (R := (fun j => zp_n u.2.1 rw_ (2000 + (j + 89)))) (k := k) (x := x) (y := y)
                                  have gv := gr (2000 + (8 * x + y + 89))
                                  have hnew : (1 : Int) = 1 ↔ zon k 10 < fw k ∧ zg_al (fun j => zp_n u.2.1 rw_ (2000 + (j + 89))) k x (y + 1) := by
                                    rw [hcy]
                                    have hd : zg_c (fun j => zp_n u.2.1 rw_ (2000 + (j + 89))) k x y ↔ (¬ zp_n u.2.1 rw_ (2000 + (8 * x + y + 89)) = 0 → zgi k x = true ∨ zgi k y = true) := Iff.rfl
                                    rw [hd]
                                    clear hd hcy
                                    rw [← gv]
                                    constructor
                                    · intro h
                                      first
                                      | exact absurd h (by decide)
                                      | (have h1 := hav.mp (by omega); exact ⟨h1.1, h1.2, fun hne => by first | (exfalso; exact hne (by assumption)) | (left; apply Iff.mp; assumption; omega) | (right; apply Iff.mp; assumption; omega)⟩)
                                    · rintro ⟨h1, h2, h3⟩
                                      have h4 := hav.mpr ⟨h1, h2⟩
                                      first
                                      | rfl
                                      | (exfalso; omega)
                                      | (exfalso; rcases h3 (by assumption) with h5 | h5 <;> simp_all <;> omega)
                                  refine zp_drop (L' := [(7, 0, ((y + 1 : Nat) : Int)), (6, 0, (x : Int)), (5, 0, 1), (4, 0, (k : Int)), (3, 0, (its k : Int)), (2, 0, fw k), (0, 2, (a : Int)), (1, 0, p1)]) (by simp <;> omega) ?_
                                  exact ih3 (y + 1) 1 (by omega) (by omega) (by decide) (by decide) hnew
                    refine zp_drop (L' := [(7, 0, ((0 : Nat) : Int)), (6, 0, (x : Int)), (5, 0, av), (4, 0, (k : Int)), (3, 0, (its k : Int)), (2, 0, fw k), (0, 2, (a : Int)), (1, 0, p1)]) (by simp) ?_
                    exact inn 10 0 av (by omega) (by omega) ha0 ha1 hav
            refine zp_drop (L' := [(6, 0, ((0 : Nat) : Int)), (5, 0, 1), (4, 0, (k : Int)), (3, 0, (its k : Int)), (2, 0, fw k), (0, 2, (a : Int)), (1, 0, p1)]) (by simp) ?_
            exact mid 10 0 1 (by omega) (by omega) (by decide) (by decide) (by
              constructor
              · intro h
                first | exact absurd h (by decide) | exact ⟨by omega, zg_al0⟩
              · rintro ⟨h1, -⟩
                first | rfl | (exfalso; omega))
    refine zp_drop (L' := [(4, 0, ((0 : Nat) : Int)), (3, 0, (its 0 : Int)), (2, 0, fw 0), (0, 2, (a : Int)), (1, 0, p1)]) (by simp <;> omega) ?_
    exact outer 258 0 (by omega) (by omega)
  · refine zp_const (pc := 15) hx hb (zd_X12_guards (15, .iconst (-1), 1, 0, []) (List.mem_of_getElem? (i := 9) rfl)) rfl rfl ?_
    refine zp_iret (pc := 16) (n := (-1)) hx hb hE hQ hU5 rfl (by decide) (zd_X12_guards (16, .ireturn, 1, 0, []) (List.mem_of_getElem? (i := 10) rfl)) (j := 0) rfl (zp_o0 (by omega) (by omega) (by omega) (by omega)) ?_
    rw [hps]
    refine ⟨rfl, fun k hk => ?_, fun _ => by show (-1) = -1; rfl, fun h => ?_⟩
    · funext j
      exact zp_set_ne (Or.inl hk)
    · exfalso
      have h : 0 ≤ p1 ∧ p1 ≤ 1 := h
      omega
