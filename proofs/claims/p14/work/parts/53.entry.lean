/-! part 53: a method gone through so: its beginning -/
noncomputable def zp_lk : List zk_L := zt_lk_WoundTownModel.map (fun r => r.1)
noncomputable def zp_lc : List (Nat × Nat × Nat) := zt_lc_WoundTownModel.map (fun r => r.1)
noncomputable def zp_E (K : zk_K) : zk_Ev := (zt_types, zp_lk, zt_dv, [], [], zp_lc, K)
theorem zp_lkall : (zp_lk.all (zt_lkin "WoundTownModel") && zp_lc.all (zt_lcin "WoundTownModel")) = true := by decide +kernel
noncomputable def zp_L0 : Nat → List zk_F → List Int → List (Nat × Nat × Int)
  | i, f :: fs, n :: ps => (i, f.1, n) :: zp_L0 (if f.1 = 1 then i + 2 else i + 1) fs ps
  | _, _, _ => []
theorem zp_L0_ok {V : List zk_F} {N : List Int} : ∀ {fs : List zk_F} {ps : List Int} {i j : Nat} {lv : List (Nat × Value)}, fs.length = ps.length → (∀ (t : Nat) (f : zk_F), fs[t]? = some f → V[j + t]? = some f) → (∀ (t : Nat) (n : Int), ps[t]? = some n → N[j + t]? = some n) → zk_all2 (zk_lr V N) (zk_larg i j fs) lv → lv = (zp_L0 i fs ps).map (fun q => (q.1, zk_mk q.2.1 q.2.2))
  | [], [], _, _, [], _, _, _, _ => rfl
  | [], [], _, _, _ :: _, _, _, _, h => h.elim
  | f :: fs, n :: ps, i, j, [], _, _, _, h => h.elim
  | f :: fs, n :: ps, i, j, r :: lv, hl, hV, hN, h => by
    obtain ⟨⟨h1, g, k, e1, e2, e3, e4⟩, h2⟩ := h
    have ih := zp_L0_ok (fs := fs) (ps := ps) (i := if f.1 = 1 then i + 2 else i + 1) (j := j + 1) (lv := lv) (by simpa using hl) (fun t f' hf => by
      have := hV (t + 1) f' (by simpa using hf)
      rw [show j + 1 + t = j + (t + 1) by omega]
      exact this) (fun t n' hn => by
      have := hN (t + 1) n' (by simpa using hn)
      rw [show j + 1 + t = j + (t + 1) by omega]
      exact this) h2
    have f1 := hV 0 f rfl
    have f2 := hN 0 n rfl
    rw [Nat.add_zero] at f1 f2
    cases f1.symm.trans e1
    cases f2.symm.trans e2
    rw [ih]
    show r :: _ = (i, zk_mk f.1 n) :: _
    congr 1
    obtain ⟨r1, r2⟩ := r
    dsimp only at h1 e4
    rw [← h1, e4, Int.add_zero]
  | [], _ :: _, _, _, _, hl, _, _, _ => by simp at hl
  | _ :: _, [], _, _, _, hl, _, _, _ => by simp at hl
theorem zp_ks {P : Nat → Option Nat} : ∀ {fs : List zk_F} {ps : List Int} {i : Nat}, fs.all (fun f => decide (f.1 ≤ 2)) = true → zk_all2 (zk_ok P) fs ps → ∀ q ∈ zp_L0 i fs ps, zp_k q.2
  | [], _, _, _, _, q, hq => absurd hq List.not_mem_nil
  | _ :: _, [], _, _, _, q, hq => absurd hq List.not_mem_nil
  | f :: fs, n :: ps, i, ha, h, q, hq => by
    rw [List.all_cons, Bool.and_eq_true, decide_eq_true_eq] at ha
    rcases List.mem_cons.mp hq with rfl | hq
    · exact zp_ok_k h.1 ha.1
    · exact zp_ks ha.2 h.2 q hq
theorem zp_ps1 {α β : Type} {R : α → β → Prop} {a : α} {bs : List β} (h : zk_all2 R [a] bs) : ∃ b, bs = [b] ∧ R a b := by
  match bs, h with
  | [b], h => exact ⟨b, rfl, h.1⟩
theorem zp_ps2 {α β : Type} {R : α → β → Prop} {a1 a2 : α} {bs : List β} (h : zk_all2 R [a1, a2] bs) : ∃ b1 b2, bs = [b1, b2] ∧ R a1 b1 ∧ R a2 b2 := by
  match bs, h with
  | [b1, b2], h => exact ⟨b1, b2, rfl, h.1, h.2.1⟩
theorem zp_ps3 {α β : Type} {R : α → β → Prop} {a1 a2 a3 : α} {bs : List β} (h : zk_all2 R [a1, a2, a3] bs) : ∃ b1 b2 b3, bs = [b1, b2, b3] ∧ R a1 b1 ∧ R a2 b2 ∧ R a3 b3 := by
  match bs, h with
  | [b1, b2, b3], h => exact ⟨b1, b2, b3, rfl, h.1, h.2.1, h.2.2.1⟩
theorem zp_ps4 {α β : Type} {R : α → β → Prop} {a1 a2 a3 a4 : α} {bs : List β} (h : zk_all2 R [a1, a2, a3, a4] bs) : ∃ b1 b2 b3 b4, bs = [b1, b2, b3, b4] ∧ R a1 b1 ∧ R a2 b2 ∧ R a3 b3 ∧ R a4 b4 := by
  match bs, h with
  | [b1, b2, b3, b4], h => exact ⟨b1, b2, b3, b4, rfl, h.1, h.2.1, h.2.2.1, h.2.2.2.1⟩
theorem zp_this {P : Nat → Option Nat} {t : Nat} {hi n : Int} (h : zk_ok P (2, t, 0, hi) n) : ∃ a : Nat, n = (a : Int) ∧ P a = some t := by
  have h : (0 : Int) ≤ n ∧ -1 ≤ n ∧ (hi < 0 → n < 0) ∧ (0 ≤ n → P n.toNat = some t) := h
  exact ⟨n.toNat, by omega, h.2.2.2 h.1⟩
theorem zp_int {P : Nat → Option Nat} {t : Nat} {lo hi n : Int} (h : zk_ok P (0, t, lo, hi) n) : lo ≤ n ∧ n ≤ hi := ⟨h.1, h.2.1⟩
theorem zp_nat {n : Int} (h : 0 ≤ n) : ∃ k : Nat, n = (k : Int) := ⟨n.toNat, by omega⟩
theorem zp_pne {P : Nat → Option Nat} {a b t t' : Nat} (ha : P a = some t) (hb : P b = some t') (h : t ≠ t') : a ≠ b := fun e => h (by rw [e, hb] at ha; exact (Option.some.inj ha).symm)
/-- a number of an array that a field of an object holds -/
noncomputable def zv (G : Nat → Nat → Int) (a k j : Nat) : Int := G (G a k).toNat (2000 + j)
theorem zv_eq {G : Nat → Nat → Int} {a k b : Nat} (h : G a k = (b : Int)) (j : Nat) : zv G a k j = G b (2000 + j) := by
  unfold zv
  rw [h, Int.toNat_natCast]
theorem zp_meth {l : Launch} {w : zk_W} (hW : zh_W w) {K : zk_K} {pl : Nat} {φ : (Nat → Option Nat) → (Nat → Nat → Int) → List Int → Prop} {ψ : (Nat → Option Nat) → (Nat → Nat → Int) → List Int → (Nat → Option Nat) → (Nat → Nat → Int) → Int → Prop} (hcls : K.1.cls = "WoundTownModel") (hb0 : (zt_cokb pl K && (zk_e0b (zp_E K) && (zk_Kk K != 2 && (zk_Kp K).all (fun f => decide (f.1 ≤ 2))))) = true)
    (hJ : ∀ (p : Program) (e : Env) (R : Room) (s : State) (m : MethodId) (args : Array Value) (below : List Frame) (meth : Method) (c : Code) (Q : State → Prop) (u : zk_M), p.tables.exec = Jvm.exec → c.code = K.2.1 → zk_ctx l R s m args meth c w u zt_TB "WoundTownModel" zt_TB zt_mn (zp_E K) → Q = MQ below (fun _ st o t => zk_postX w K (zp_B ψ) u.1 u.2.1 u.2.2.1 st t o) args s (zk_Kr K).2.2.1 (zk_Kr K).2.2.2 (fun q => w.2.2.2.1 ≤ q) → u.2.2.2.2.1 = [] → u.2.2.2.1 = zk_Ke K → u.2.2.2.2.2.1 = K.2.2.1 → zk_all2 (zk_ok u.1) (zk_Kp K) u.2.2.1 → φ u.1 (zp_n u.2.1) u.2.2.1 → zp_J p l e R s m args below meth c Q w u [] 0 (zp_L0 0 (zk_Kp K) u.2.2.1) [] u.1 (zp_n u.2.1)) : zk_metX l w zt_dv zt_TB K (zp_A φ) (zp_B ψ) ∧ zk_cok w zt_TB K := by
  simp only [Bool.and_eq_true] at hb0
  obtain ⟨b1, b2, b3, b4⟩ := hb0
  rw [bne_iff_ne] at b3
  have hall := zp_lkall
  refine zh_methH hW (lk := zp_lk) (KS := []) (km := []) (lc := zp_lc) (K := K) (pl := pl) (A := zp_A φ) (B := zp_B ψ) b3 b2 (by rw [hcls]; simp only [Bool.and_eq_true] at hall ⊢; exact ⟨b1, by decide, hall.1, hall.2⟩) (fun K h => absurd h List.not_mem_nil) (fun p e R s m args below meth c Q P0 G0 ps X hx hb hA hps hE hQ H locs ls hG => ?_)
  have hE1 := hE [] P0 G0 (zk_Ke K) (zk_Ka K) ps (zk_Kp K) (zk_all2_len hps).symm (fun _ _ h => h)
  rw [show (zk_ev (zt_types, zp_lk, zt_dv, ([] : List zk_K), ([] : List Nat), zp_lc, K)).1.cls = "WoundTownModel" from hcls] at hE1
  have hJ1 := hJ p e R s m args below meth c Q (P0, G0, ps, zk_Ke K, [], K.2.2.1, X) hx hb hE1 hQ rfl rfl rfl hps hA
  obtain ⟨h1, h2, h3, h4, h5, ⟨lv, h6a, h6b⟩, h7, h8, h9, h10, h11, h12, h13⟩ := hG
  have hlv := zp_L0_ok (fs := zk_Kp K) (ps := ps) (i := 0) (j := 3) (zk_all2_len hps) (fun t f h => by
    show (zk_V0 ++ zk_Kp K)[3 + t]? = some f
    rw [List.getElem?_append_right (by show 3 ≤ 3 + t; omega)]
    show (zk_Kp K)[3 + t - 3]? = some f
    rw [show 3 + t - 3 = t by omega]
    exact h) (fun t n h => by
    rw [List.getElem?_append_right (by show 3 ≤ 3 + t; omega)]
    show ps[3 + t - 3]? = some n
    rw [show 3 + t - 3 = t by omega]
    exact h) h6b
  rw [hlv] at h6a
  exact hJ1 G0 H locs ls rfl ⟨zp_wt.of h5, h7, h8, h9, h13⟩ h6a (zp_ks b4 hps) (fun q h => absurd h List.not_mem_nil)
