/-! part h0: logical cells: memory by the numbers of the cells -/
/-- A: where a cell lies; Y: the cells with their types; F: which field of which cell is which cell; M: what stands in them -/
noncomputable def zM (A : Nat → Nat) (Y : List (Nat × Nat)) (F : List (Nat × Nat × Nat)) (M : Nat → Nat → Int) (P : Nat → Option Nat) (G : Nat → Nat → Int) : Prop :=
  (∀ q ∈ Y, P (A q.1) = some q.2 ∧ ∀ k, G (A q.1) k = M q.1 k) ∧ (∀ r ∈ F, M r.1 r.2.1 = (A r.2.2 : Int)) ∧ (∀ q ∈ Y, ∀ r ∈ Y, A q.1 = A r.1 → q.1 = r.1) ∧ ∀ r ∈ F, r.2.1 < 1000
theorem zM_P {A : Nat → Nat} {Y : List (Nat × Nat)} {F : List (Nat × Nat × Nat)} {M : Nat → Nat → Int} {P : Nat → Option Nat} {G : Nat → Nat → Int} (h : zM A Y F M P G) {o t : Nat} (ho : (o, t) ∈ Y) : P (A o) = some t := (h.1 _ ho).1
theorem zM_G {A : Nat → Nat} {Y : List (Nat × Nat)} {F : List (Nat × Nat × Nat)} {M : Nat → Nat → Int} {P : Nat → Option Nat} {G : Nat → Nat → Int} (h : zM A Y F M P G) {o t : Nat} (ho : (o, t) ∈ Y) (k : Nat) : G (A o) k = M o k := (h.1 _ ho).2 k
theorem zM_F {A : Nat → Nat} {Y : List (Nat × Nat)} {F : List (Nat × Nat × Nat)} {M : Nat → Nat → Int} {P : Nat → Option Nat} {G : Nat → Nat → Int} (h : zM A Y F M P G) {o k o' : Nat} (ho : (o, k, o') ∈ F) : M o k = (A o' : Int) := h.2.1 _ ho
theorem zM_ne {A : Nat → Nat} {Y : List (Nat × Nat)} {F : List (Nat × Nat × Nat)} {M : Nat → Nat → Int} {P : Nat → Option Nat} {G : Nat → Nat → Int} (h : zM A Y F M P G) {o t o' t' : Nat} (ho : (o, t) ∈ Y) (ho' : (o', t') ∈ Y) (hn : o ≠ o') : A o ≠ A o' := fun e => hn (h.2.2.1 _ ho _ ho' e)
theorem zM_set {A : Nat → Nat} {Y : List (Nat × Nat)} {F : List (Nat × Nat × Nat)} {M : Nat → Nat → Int} {P : Nat → Option Nat} {G : Nat → Nat → Int} (h : zM A Y F M P G) {o t k : Nat} {v : Int} (ho : (o, t) ∈ Y) (hF : ∀ r ∈ F, r.1 = o → r.2.1 ≠ k) : zM A Y F (zp_set M o k v) P (zp_set G (A o) k v) := by
  obtain ⟨h1, h2, h3, h4⟩ := h
  refine ⟨fun q hq => ⟨(h1 q hq).1, fun j => ?_⟩, fun r hr => ?_, h3, h4⟩
  · unfold zp_set
    by_cases e : q.1 = o
    · by_cases ej : j = k
      · rw [if_pos ⟨by rw [e], ej⟩, if_pos ⟨e, ej⟩]
      · rw [if_neg (fun z => ej z.2), if_neg (fun z => ej z.2)]
        exact (h1 q hq).2 j
    · rw [if_neg (fun z => e (h3 q hq (o, t) ho z.1)), if_neg (fun z => e z.1)]
      exact (h1 q hq).2 j
  · rw [zp_set_ne (by
      by_cases e : r.1 = o
      · exact Or.inr (hF r hr e)
      · exact Or.inl e)]
    exact h2 r hr
theorem zM_setE {A : Nat → Nat} {Y : List (Nat × Nat)} {F : List (Nat × Nat × Nat)} {M : Nat → Nat → Int} {P : Nat → Option Nat} {G : Nat → Nat → Int} (h : zM A Y F M P G) {o t j : Nat} {v : Int} (ho : (o, t) ∈ Y) : zM A Y F (zp_set M o (2000 + j) v) P (zp_set G (A o) (2000 + j) v) :=
  zM_set h ho (fun r hr _ => by have := h.2.2.2 r hr; omega)
/-- the effects name none of the fields that say which cell is which -/
noncomputable def zM_fx (Y : List (Nat × Nat)) (F : List (Nat × Nat × Nat)) (eff : List (Nat × Nat × Nat)) : Prop := ∀ r ∈ F, ∃ t, (r.1, t) ∈ Y ∧ zp_nfb eff t r.2.1 = true
theorem zM_fb {Y : List (Nat × Nat)} {F : List (Nat × Nat × Nat)} {eff : List (Nat × Nat × Nat)} (h : F.all (fun r => Y.any (fun q => q.1 == r.1 && zp_nfb eff q.2 r.2.1)) = true) : zM_fx Y F eff := fun r hr => by
  obtain ⟨q, q1, q2⟩ := List.any_eq_true.mp (List.all_eq_true.mp h r hr)
  rw [Bool.and_eq_true, beq_iff_eq] at q2
  exact ⟨q.2, by rw [← q2.1]; exact q1, q2.2⟩
/-- behind a call that is known by its effects -/
theorem zM_eff {A : Nat → Nat} {Y : List (Nat × Nat)} {F : List (Nat × Nat × Nat)} {M : Nat → Nat → Int} {P P' : Nat → Option Nat} {G G' : Nat → Nat → Int} {eff : List (Nat × Nat × Nat)} {ps : List Int} (h : zM A Y F M P G) (hfr : zp_fr eff ps P G G') (hext : ∀ a t, P a = some t → P' a = some t) (hF : zM_fx Y F eff) : ∃ M', zM A Y F M' P' G' ∧ ∀ o t k, (o, t) ∈ Y → (zp_nfb eff t k = true ∨ zp_ncb eff t = true) → M' o k = M o k := by
  obtain ⟨h1, h2, h3, h4⟩ := h
  refine ⟨fun o k => G' (A o) k, ⟨fun q hq => ⟨hext _ _ (h1 q hq).1, fun k => rfl⟩, fun r hr => ?_, h3, h4⟩, fun o t k ho he => ?_⟩
  · obtain ⟨t, t1, t2⟩ := hF r hr
    have h5 := zp_nf hfr (h1 _ t1).1 t2
    show G' (A r.1) r.2.1 = _
    rw [h5]
    exact ((h1 _ t1).2 _).trans (h2 r hr)
  · show G' (A o) k = M o k
    rcases he with he | he
    · rw [zp_nf hfr (h1 _ ho).1 he]
      exact (h1 _ ho).2 k
    · rw [zp_nc hfr (h1 _ ho).1 he]
      exact (h1 _ ho).2 k
/-- n numbers of cell o1 from b1 on stand in cell o2 from b2 on -/
noncomputable def zc_cp (M : Nat → Nat → Int) (o1 b1 o2 b2 n : Nat) : Nat → Nat → Int := fun o j => if o = o2 ∧ 2000 + b2 ≤ j ∧ j < 2000 + b2 + n then M o1 (2000 + (b1 + (j - (2000 + b2)))) else M o j
theorem zc_cp_0 {M : Nat → Nat → Int} {o1 b1 o2 b2 : Nat} : zc_cp M o1 b1 o2 b2 0 = M := by
  funext o j
  exact if_neg (by omega)
theorem zc_cp_s {M : Nat → Nat → Int} {o1 b1 o2 b2 n : Nat} : zp_set (zc_cp M o1 b1 o2 b2 n) o2 (2000 + (b2 + n)) (M o1 (2000 + (b1 + n))) = zc_cp M o1 b1 o2 b2 (n + 1) := by
  funext o j
  unfold zp_set zc_cp
  by_cases h : o = o2 ∧ j = 2000 + (b2 + n)
  · rw [if_pos h, if_pos ⟨h.1, by omega, by omega⟩]
    congr 2
    omega
  · rw [if_neg h]
    by_cases h2 : o = o2 ∧ 2000 + b2 ≤ j ∧ j < 2000 + b2 + n
    · rw [if_pos h2, if_pos ⟨h2.1, h2.2.1, by omega⟩]
    · rw [if_neg h2, if_neg (fun z => by
        by_cases e : j = 2000 + (b2 + n)
        · exact h ⟨z.1, e⟩
        · exact h2 ⟨z.1, z.2.1, by omega⟩)]
theorem zc_cp_o {M : Nat → Nat → Int} {o1 b1 o2 b2 n o j : Nat} (h : o ≠ o2) : zc_cp M o1 b1 o2 b2 n o j = M o j := if_neg (fun z => h z.1)
theorem zc_cp_f {M : Nat → Nat → Int} {o1 b1 o2 b2 n o j : Nat} (h : j < 2000) : zc_cp M o1 b1 o2 b2 n o j = M o j := if_neg (fun z => by omega)
theorem zc_cp_n {M : Nat → Nat → Int} {o1 b1 o2 b2 n o j : Nat} (h : j < b2 ∨ b2 + n ≤ j) : zc_cp M o1 b1 o2 b2 n o (2000 + j) = M o (2000 + j) := if_neg (fun z => by omega)
theorem zc_cp_e {M : Nat → Nat → Int} {o1 b1 o2 b2 n j : Nat} (h1 : b2 ≤ j) (h2 : j < b2 + n) : zc_cp M o1 b1 o2 b2 n o2 (2000 + j) = M o1 (2000 + (b1 + (j - b2))) := by
  unfold zc_cp
  rw [if_pos ⟨rfl, by omega, by omega⟩]
  congr 2
  omega
/-- the same of the memory itself -/
noncomputable def zp_cpo (G : Nat → Nat → Int) (a0 i0 a i1 n : Nat) : Nat → Nat → Int := fun b k => if b = a ∧ 2000 + i1 ≤ k ∧ k < 2000 + i1 + n then G a0 (2000 + (i0 + (k - (2000 + i1)))) else G b k
theorem zM_cp {A : Nat → Nat} {Y : List (Nat × Nat)} {F : List (Nat × Nat × Nat)} {M : Nat → Nat → Int} {P : Nat → Option Nat} {G : Nat → Nat → Int} (h : zM A Y F M P G) {o0 t0 o1 t1 i0 i1 n : Nat} (h0 : (o0, t0) ∈ Y) (h1 : (o1, t1) ∈ Y) : zM A Y F (zc_cp M o0 i0 o1 i1 n) P (zp_cpo G (A o0) i0 (A o1) i1 n) := by
  obtain ⟨m1, m2, m3, m4⟩ := h
  refine ⟨fun q hq => ⟨(m1 q hq).1, fun k => ?_⟩, fun r hr => ?_, m3, m4⟩
  · unfold zp_cpo zc_cp
    by_cases e : q.1 = o1 ∧ 2000 + i1 ≤ k ∧ k < 2000 + i1 + n
    · rw [if_pos ⟨by rw [e.1], e.2⟩, if_pos e]
      exact (m1 _ h0).2 _
    · rw [if_neg (fun z => e ⟨m3 q hq _ h1 z.1, z.2⟩), if_neg e]
      exact (m1 q hq).2 k
  · have := m4 r hr
    rw [zc_cp_f (by omega)]
    exact m2 r hr
/-- virtual memory: a copy among what is no scratch; into scratch -/
theorem zV_cp {N : Nat → Nat → Prop} {M V : Nat → Nat → Int} {o0 i0 o1 i1 n : Nat} (h : ∀ o k, N o k → M o k = V o k) (h0 : ∀ j, N o0 (2000 + j)) : ∀ o k, N o k → zc_cp M o0 i0 o1 i1 n o k = zc_cp V o0 i0 o1 i1 n o k := fun o k hk => by
  unfold zc_cp
  split
  · exact h _ _ (h0 _)
  · exact h o k hk
theorem zV_cps {N : Nat → Nat → Prop} {M V : Nat → Nat → Int} {o0 i0 i1 n : Nat} (h : ∀ o k, N o k → M o k = V o k) {o1 : Nat} (h1 : ∀ k, ¬ N o1 k) : ∀ o k, N o k → zc_cp M o0 i0 o1 i1 n o k = V o k := fun o k hk => by
  rw [zc_cp_o (fun e => h1 k (by rw [← e]; exact hk))]
  exact h o k hk
theorem zp_cpo_n {F : Nat → va_E} {a0 a n i0 i1 n0 n1 : Nat} {c0 c1 : ClassId} {f g : Nat → Int32} (o0 : F a0 = .inl (c0, n0, .inl f)) (o1 : F a = .inl (c1, n1, .inl g)) (h0 : i0 + n ≤ n0) (h1 : i1 + n ≤ n1) : zp_n (zk_up F a (.inl (c1, n1, .inl (va_cpy f g i0 i1 n)))) = zp_cpo (zp_n F) a0 i0 a i1 n := by
  funext b i
  unfold zp_cpo
  by_cases hba : b = a
  · subst hba
    by_cases hi : 2000 + i1 ≤ i ∧ i < 2000 + i1 + n
    · rw [if_pos ⟨rfl, hi.1, hi.2⟩]
      obtain ⟨j, rfl⟩ : ∃ j, i = 2000 + j := ⟨i - 2000, by omega⟩
      unfold zp_n
      rw [zk_up_self, zk_rd_i (by omega), o0, show i0 + (2000 + j - (2000 + i1)) = i0 + (j - i1) by omega, zk_rd_i (by omega)]
      unfold va_cpy
      rw [if_pos ⟨by omega, by omega⟩]
    · rw [if_neg (fun h => hi h.2)]
      unfold zp_n
      have e : zk_rd (.inl (c1, n1, .inl (va_cpy f g i0 i1 n))) i = zk_rd (.inl (c1, n1, .inl g)) i := by
        unfold zk_rd
        dsimp only
        by_cases c1 : i = 1000
        · rw [if_pos c1, if_pos c1]
        · rw [if_neg c1, if_neg c1]
          by_cases c2 : 2000 ≤ i ∧ i - 2000 < n1
          · rw [if_pos c2, if_pos c2]
            show some (Value.int (va_cpy f g i0 i1 n (i - 2000))) = some (.int (g (i - 2000)))
            unfold va_cpy
            rw [if_neg (by omega)]
          · rw [if_neg c2, if_neg c2]
      rw [zk_up_self, o1, e]
  · rw [if_neg (fun h => hba h.1)]
    unfold zp_n
    rw [zk_up_ne hba]
theorem zc_nin {L : List Nat} {o x : Nat} (h : o ∉ L) (hx : x ∈ L) : o ≠ x := fun e => h (e ▸ hx)
theorem zc_sub {L L' : List Nat} {o : Nat} (h : o ∉ L) (hs : ∀ x ∈ L', x ∈ L) : o ∉ L' := fun hx => h (hs _ hx)
theorem zl_cpf {P : Nat → Option Nat} {f f' : zk_F} {v : Value} (h0 : f.1 = 0) (h0' : f'.1 = 0) (he : f'.2.2 = f.2.2) (h : zk_fv P f v) : zk_fv P f' v := by
  obtain ⟨n, h1, h2⟩ := h
  obtain ⟨k, t, lo, hi⟩ := f
  obtain ⟨k', t', lo', hi'⟩ := f'
  dsimp only at h0 h0' he
  subst h0 h0'
  cases he
  exact ⟨n, ⟨h1.1, h1.2.1, h1.2.2⟩, h2⟩
section ZH0
variable {p : Program} {l : Launch} {e : Env} {R : Room} {s : State} {m : MethodId} {args : Array Value} {below : List Frame} {meth : Method} {c : Code} {Q : State → Prop}
variable {cc : ByteArray} {w : zk_W} {u : zk_M} {Ts : List Jvm.Cond} {own : String}
variable {xs : List Nat} {pc : Nat} {L : List (Nat × Nat × Int)} {S : List (Nat × Int)} {P : Nat → Option Nat} {G : Nat → Nat → Int}
theorem zp_iremx (hx : p.tables.exec = Jvm.exec) (hb : c.code = cc) {a b n : Int} (hdg : decode cc pc = .ok (.irem, 1)) (h0 : b ≠ 0) (hn : a.tmod b = n) (hr : zk_rg 0 n) (kk : zp_J p l e R s m args below meth c Q w u xs (pc + 1) L ((0, n) :: S) P G) : zp_J p l e R s m args below meth c Q w u xs pc L ((0, b) :: (0, a) :: S) P G := by
  subst hn
  intro F H locs ls hF hI hL hkL hkS
  have rb : zk_rg 0 b := (zp_tl hkS).1.2.1
  have ra : zk_rg 0 a := (zp_tl (zp_tl hkS).2).1.2.1
  refine zw_bin (o := 10) hx hb rfl hdg (fun _ => zg_nz32 rb h0) ?_
  have e : zk_bn 10 (Int32.ofInt a) (Int32.ofInt b) = Int32.ofInt (a.tmod b) := by
    show Int32.ofInt a - Int32.ofInt a / Int32.ofInt b * Int32.ofInt b = _
    rw [zg_div32 ra rb, ← Int32.ofInt_mul, ← Int32.ofInt_sub, Int.tmod_def, Int.mul_comm b]
  rw [e]
  exact kk F H locs ls hF hI hL hkL (List.forall_mem_cons.mpr ⟨zp_k0 hr, (zp_tl (zp_tl hkS).2).2⟩)
theorem zp_copyO (hx : p.tables.exec = Jvm.exec) (hb : c.code = cc) {E : zk_Ev} (hE : zk_ctx l R s m args meth c w u zt_TB own zt_TB zt_mn E) (hw : w.1 = zt_types) {eff : List (Nat × Nat × Nat)} (heff : u.2.2.2.1 = eff) {rm : Nat × Nat × Nat × Nat} (hrm : zk_Kr (zk_ev E) = rm) {idx j x y a0 a t0 t n i0 i1 : Nat} {z v : Int} {T0 T : zk_T} (hdg : decode cc pc = .ok (.invokestatic idx, 3)) (hlk : E.2.1[j]? = some (8, idx, x, y, z)) (hT0 : zt_types[t0]? = some T0) (hT : zt_types[t]? = some T) (h10 : T0.1 = 1) (h1 : T.1 = 1) (hp0 : P a0 = some t0) (hp : P a = some t) (hv : v = (n : Int)) {v0 v1 : Int} (hv0 : v0 = (i0 : Int)) (hv1 : v1 = (i1 : Int)) (hn0 : i0 + n ≤ T0.2.1) (hn : i1 + n ≤ T.2.1) (hnb : i0 + i1 + n ≤ 1000000) (hfit : ∀ j, j < n → ∀ v, zk_fv P (zk_fj T0 (i0 + j)) v → zk_fv P (zk_fj T (i1 + j)) v) (hrm2 : 1 ≤ rm.1 ∧ 26 ≤ rm.2.1) (hcs : zp_cs S ≤ 8) (hx2 : a ∈ xs ∨ (t ≠ 59 ∧ t ≠ 60)) (he : zp_eb eff t 1001 = true) (kk : zp_J p l e R s m args below meth c Q w u xs (pc + 3) L S P (zp_cpo G a0 i0 a i1 n)) : zp_J p l e R s m args below meth c Q w u xs pc L ((0, v) :: (0, v1) :: (2, (a : Int)) :: (0, v0) :: (2, (a0 : Int)) :: S) P G := by
  obtain ⟨⟨e1, e2, e3⟩, e4, e5, e6, e7, e8, e9, e10, e11, e12, e13, -⟩ := hE
  have e14 := e10 _ (List.mem_of_getElem? hlk)
  subst hv hv0 hv1
  rw [hrm] at e13
  intro F H locs ls hF hI hL hkL hkS
  rw [← hw] at hT0 hT
  obtain ⟨cA0, n0, f, o1, o2, o3, o4, o5, o6, o7⟩ := zp_iarr hI.1 hp0 hT0 (Or.inl h10)
  obtain ⟨cA, n1, g, y1, y2, y3, y4, y5, y6, y7⟩ := zp_iarr hI.1 hp hT (Or.inl h1)
  have k4 := (zp_tl (zp_tl (zp_tl (zp_tl (zp_tl hkS).2).2).2).2).2
  have nz : ∀ {z : Int}, zk_rg 0 z → 0 ≤ z → ¬ Int32.ofInt z < 0 ∧ (Int32.ofInt z).toNatClampNeg = z.toNat := by
    intro z hz h0
    refine ⟨?_, ?_⟩
    · rw [← zk_z32, zk_lt32 hz ⟨by decide, by decide⟩]
      omega
    · show (Int32.ofInt z).toInt.toNat = _
      rw [zk_i32 hz]
  have q3 := nz (z := (n : Int)) (zp_r0 (by omega) (by omega)) (by omega)
  have qa := nz (z := (i0 : Int)) (zp_r0 (by omega) (by omega)) (by omega)
  have qb := nz (z := (i1 : Int)) (zp_r0 (by omega) (by omega)) (by omega)
  rw [Int.toNat_natCast] at q3 qa qb
  have hls : c.maxLocals = ls.size := by
    rw [e1]
    exact hL.1.symm
  have hcat : ((S.map (fun q => zk_mk q.1 q.2)).map fun v => v.category).sum ≤ 8 := by
    rw [List.map_map]
    have : (S.map ((fun v => v.category) ∘ fun q => zk_mk q.1 q.2)) = S.map (fun q => if q.1 = 1 then 2 else 1) := List.map_congr_left (fun q _ => zk_mk_cat)
    rw [this]
    exact hcs
  show W p l e R s m args below meth c H locs 0 0 Q (F0 m pc ls (.int (Int32.ofInt (n : Int)) :: .int (Int32.ofInt (i1 : Int)) :: zk_mk 2 (a : Int) :: .int (Int32.ofInt (i0 : Int)) :: zk_mk 2 (a0 : Int) :: S.map (fun q => zk_mk q.1 q.2)))
  rw [zp_ref, zp_ref]
  rw [h10] at o4
  rw [h1] at y4
  refine zw_copyi hx hb hls e6 e14.1 e14.2.1 e14.2.2.1 e14.2.2.2 o6 y6 o4 y4 qa.1 qb.1 q3.1 (by rw [qa.2, q3.2]; omega) (by rw [qb.2, q3.2]; omega) (by have := e13.1; omega) (by rw [zk_nfw]; have := e13.2.1; omega) hdg (fun H1 Lc z1 z2 z3 z4 => ?_)
  rw [qa.2, qb.2, q3.2] at z1
  refine kk _ H1 _ ls ((zp_cpo_n o1 y1 (by omega) (by omega)).trans (by rw [hF])) (zp_wrL hI hp hT (pk := fun k => 2000 + i1 ≤ k ∧ k < 2000 + i1 + n) ?_ (show va_at _ _ (a, .inl (cA, n1, .inl _)) H1 from z1) z2 z3 z4 ?_ (fun k hk2 => ?_) (hx2.imp (fun h => h) (fun h => ⟨fun e => absurd e h.1, fun e => absurd e h.2⟩))) hL hkL k4
  · unfold zk_el
    rw [h1]
    refine ⟨cA, n1, _, rfl, y2, y3, y4, fun i' hi' => ?_⟩
    show zk_fv P (zk_fj T i') (.int (va_cpy f g i0 i1 n i'))
    unfold va_cpy
    by_cases hin : i1 ≤ i' ∧ i' < i1 + n
    · have hf9 := hfit (i' - i1) (by omega)
      rw [show i1 + (i' - i1) = i' by omega] at hf9
      rw [if_pos hin]
      exact hf9 _ (o5 (i0 + (i' - i1)) (by omega))
    · rw [if_neg (by omega)]
      exact y5 i' hi'
  · rw [y1]
    refine ⟨rfl, rfl, fun i' hi' hP => ?_⟩
    show some (Value.int (g i')) = some (.int (va_cpy f g i0 i1 n i'))
    unfold va_cpy
    rw [if_neg (fun h => hP ⟨by omega, by omega⟩)]
  · obtain ⟨j', rfl⟩ : ∃ j', k = 2000 + j' := ⟨k - 2000, by omega⟩
    rw [heff]
    exact zp_eb_ok he (zp_1001 (by omega))
end ZH0
