/-! part 67: an array of which less is asked for a while -/
section ZP67
variable {p : Program} {l : Launch} {e : Env} {R : Room} {s : State} {m : MethodId} {args : Array Value} {below : List Frame} {meth : Method} {c : Code} {Q : State → Prop}
variable {cc : ByteArray} {w : zk_W} {u : zk_M} {Ts : List Jvm.Cond} {own : String}
variable {pc : Nat} {L : List (Nat × Nat × Int)} {S : List (Nat × Int)} {P : Nat → Option Nat} {G : Nat → Nat → Int}
theorem zp_weak {xs : List Nat} (kk : zp_J p l e R s m args below meth c Q w u xs pc L S P G) : zp_J p l e R s m args below meth c Q w u [] pc L S P G :=
  fun F H locs ls hF hI hL hkL hkS => kk F H locs ls hF ⟨zp_wt.of hI.1.strong, hI.2⟩ hL hkL hkS
theorem zp_arr_n {xs : List Nat} {F : Nat → va_E} {H : Heap} (h : zp_wt w s xs P F H) (hw : w.1 = zt_types) {b t : Nat} {T : zk_T} (hp : P b = some t) (hT : zt_types[t]? = some T) (h1 : T.1 = 1) : ∃ cA n f, F b = .inl (cA, n, .inl f) ∧ T.2.1 ≤ n ∧ (∀ j, j < n → zk_fv P (zk_fj T j) (.int (f j))) ∧ ∀ j, j < n → zp_n F b (2000 + j) = (f j).toInt := by
  rw [← hw] at hT
  obtain ⟨cA, n, f, o1, o2, o3, o4, o5, o6, o7⟩ := zp_iarr h hp hT (Or.inl h1)
  refine ⟨cA, n, f, o1, o2, o5, fun j hj => ?_⟩
  unfold zp_n
  rw [o1, zk_rd_i hj]
  rfl
theorem zp_strong (hw : w.1 = zt_types) {b t : Nat} {T : zk_T} (hp : P b = some t) (hT : zt_types[t]? = some T) (h1 : T.1 = 1) (hx : ∀ f : Nat → Int, (∀ j, j < T.2.1 → f j = G b (2000 + j)) → zk_xi t f) (kk : zp_J p l e R s m args below meth c Q w u [] pc L S P G) : zp_J p l e R s m args below meth c Q w u [b] pc L S P G := by
  intro F H locs ls hF hI hL hkL hkS
  obtain ⟨cA, n, f, o1, o2, o3, o4⟩ := zp_arr_n hI.1 hw hp hT h1
  refine kk F H locs ls hF ⟨zp_wt.of (hI.1.back (fun a t' ha hp' => ?_)), hI.2⟩ hL hkL hkS
  obtain rfl := List.mem_singleton.mp ha
  rw [hp] at hp'
  cases hp'
  rw [o1]
  show zk_xi t (fun j => (f j).toInt)
  refine hx _ (fun j hj => ?_)
  rw [← hF, o4 j (by omega)]
theorem zp_kx (hw : w.1 = zt_types) {b t : Nat} {T : zk_T} (hp : P b = some t) (hT : zt_types[t]? = some T) (h1 : T.1 = 1) (kk : (∃ f : Nat → Int, (∀ j, j < T.2.1 → f j = G b (2000 + j)) ∧ zk_xi t f) → zp_J p l e R s m args below meth c Q w u [] pc L S P G) : zp_J p l e R s m args below meth c Q w u [] pc L S P G := by
  intro F H locs ls hF hI hL hkL hkS
  obtain ⟨cA, n, f, o1, o2, o3, o4⟩ := zp_arr_n hI.1 hw hp hT h1
  have hrl := hI.1.strong b t hp
  rw [← hw] at hT
  rw [zk_wt1.some hT, o1] at hrl
  exact kk ⟨fun j => (f j).toInt, fun j hj => by rw [← hF, o4 j (by omega)], hrl.2.2.2⟩ F H locs ls hF hI hL hkL hkS
theorem zp_kaT {xs : List Nat} (hw : w.1 = zt_types) {b t : Nat} {T : zk_T} (hp : P b = some t) (hT : zt_types[t]? = some T) (h1 : T.1 = 1) (hk : ∀ j, (zk_fj T j).1 = 0) (kk : (∀ j, j < T.2.1 → zk_ok P (zk_fj T j) (G b (2000 + j))) → zp_J p l e R s m args below meth c Q w u xs pc L S P G) : zp_J p l e R s m args below meth c Q w u xs pc L S P G := by
  intro F H locs ls hF hI hL hkL hkS
  obtain ⟨cA, n, f, o1, o2, o3, o4⟩ := zp_arr_n hI.1 hw hp hT h1
  refine kk (fun j hj => ?_) F H locs ls hF hI hL hkL hkS
  obtain ⟨z, z1, z2⟩ := o3 j (by omega)
  rw [← hF, o4 j (by omega)]
  rw [hk j] at z2
  have z2 : Value.int (f j) = .int (Int32.ofInt z) := z2
  rw [Value.int.inj z2]
  have hr := z1.rg
  rw [hk j] at hr
  rw [zk_i32 hr]
  exact z1
end ZP67
noncomputable def zl_T : zk_T := zt_types.getD 59 (0, 0, 0, [])
theorem zl_T59 : zt_types[59]? = some zl_T := rfl
theorem zl_kd (j : Nat) : (zk_fj zl_T j).1 = 0 := by
  show (if (zk_f0 zl_T).1 = 9 then zk_rgn zl_T.2.2.2.tail (j % (zk_f0 zl_T).2.1) else zk_f0 zl_T).1 = 0
  rw [if_pos (by decide +kernel)]
  exact zk_rgn_kd (by decide +kernel) _
/-- what may stand at the places of a law's text -/
noncomputable def zl_seg : List zk_F → Nat → Nat → Option zk_F
  | [], _, _ => none
  | f :: r, a, b => if a < f.2.1 then (if b ≤ f.2.1 then some f else none) else zl_seg r a b
theorem zl_seg_ok : ∀ {rs : List zk_F} {a b : Nat} {f : zk_F}, zl_seg rs a b = some f → ∀ j, a ≤ j → j < b → zk_rgn rs j = f
  | [], _, _, _, h, _, _, _ => by cases h
  | g :: r, a, b, f, h, j, h1, h2 => by
    unfold zl_seg at h
    unfold zk_rgn
    split at h
    · split at h
      · cases h
        rw [if_pos (by omega)]
      · cases h
    · rw [if_neg (by omega)]
      exact zl_seg_ok h j h1 h2
noncomputable def zl_rs : List zk_F := zl_T.2.2.2.tail
noncomputable def zl_is (a b : Nat) (lo hi : Int) : Bool := match zl_seg zl_rs a b with
  | some f => f.1 == 0 && (decide (f.2.2.1 = lo) && decide (f.2.2.2 = hi))
  | none => false
theorem zl_fj {j : Nat} (h : j < 5580) : zk_fj zl_T j = zk_rgn zl_rs j := by
  show (if (zk_f0 zl_T).1 = 9 then zk_rgn zl_T.2.2.2.tail (j % (zk_f0 zl_T).2.1) else zk_f0 zl_T) = _
  rw [if_pos (by decide +kernel), show (zk_f0 zl_T).2.1 = 5580 from by decide +kernel, Nat.mod_eq_of_lt h]
  rfl
theorem zl_is_ok {a b : Nat} {lo hi : Int} (h : zl_is a b lo hi = true) {j : Nat} (h1 : a ≤ j) (h2 : j < b) (h3 : j < 5580) : ∃ x, zk_fj zl_T j = (0, x, lo, hi) := by
  unfold zl_is at h
  split at h
  · rename_i f hf
    simp only [Bool.and_eq_true, beq_iff_eq, decide_eq_true_eq] at h
    obtain ⟨e1, e2, e3⟩ := h
    obtain ⟨k, x, l, g⟩ := f
    dsimp only at e1 e2 e3
    subst e1; subst e2; subst e3
    exact ⟨x, by rw [zl_fj h3]; exact zl_seg_ok hf j h1 h2⟩
  · cases h
noncomputable def zl_rgb (n : Nat) : Bool := zl_is (181 + 900 * n) (182 + 900 * n) 0 12 && (zl_is (278 + 900 * n) (1080 + 900 * n) (-2147483648) 2147483647 && (List.range 12).all (fun c => zl_is (182 + 900 * n + 8 * c) (185 + 900 * n + 8 * c) (-2147483648) 2147483647 && (zl_is (185 + 900 * n + 8 * c) (189 + 900 * n + 8 * c) 0 400 && zl_is (189 + 900 * n + 8 * c) (190 + 900 * n + 8 * c) (-2147483648) 2147483647)))
theorem zl_rg_all : (List.range 6).all zl_rgb = true := by decide +kernel
theorem zl_rg1 {n : Nat} (hn : n < 6) : ∃ x, zk_fj zl_T (180 + 900 * n + 1) = (0, x, 0, 12) := by
  have h := List.all_eq_true.mp zl_rg_all n (List.mem_range.mpr hn)
  unfold zl_rgb at h
  rw [Bool.and_eq_true] at h
  exact zl_is_ok h.1 (by omega) (by omega) (by omega)
theorem zl_rg2 {n j : Nat} (hn : n < 6) (h1 : 98 ≤ j) (h2 : j < 900) : ∃ x, zk_fj zl_T (180 + 900 * n + j) = (0, x, -2147483648, 2147483647) := by
  have h := List.all_eq_true.mp zl_rg_all n (List.mem_range.mpr hn)
  unfold zl_rgb at h
  rw [Bool.and_eq_true, Bool.and_eq_true] at h
  exact zl_is_ok h.2.1 (by omega) (by omega) (by omega)
theorem zl_rg3 {n c j : Nat} (hn : n < 6) (hc : c < 12) (hj : j < 8) : ∃ x lo hi, zk_fj zl_T (180 + 900 * n + 2 + (8 * c + j)) = (0, x, lo, hi) ∧ (3 ≤ j → j ≤ 6 → lo = 0 ∧ hi = 400) ∧ ((j < 3 ∨ 6 < j) → lo = -2147483648 ∧ hi = 2147483647) := by
  have h := List.all_eq_true.mp zl_rg_all n (List.mem_range.mpr hn)
  unfold zl_rgb at h
  rw [Bool.and_eq_true, Bool.and_eq_true] at h
  have h2 := List.all_eq_true.mp h.2.2 c (List.mem_range.mpr hc)
  rw [Bool.and_eq_true, Bool.and_eq_true] at h2
  by_cases c1 : j < 3
  · obtain ⟨x, hx⟩ := zl_is_ok h2.1 (j := 180 + 900 * n + 2 + (8 * c + j)) (by omega) (by omega) (by omega)
    exact ⟨x, _, _, hx, fun z => by omega, fun _ => ⟨rfl, rfl⟩⟩
  · by_cases c2 : j ≤ 6
    · obtain ⟨x, hx⟩ := zl_is_ok h2.2.1 (j := 180 + 900 * n + 2 + (8 * c + j)) (by omega) (by omega) (by omega)
      exact ⟨x, _, _, hx, fun _ _ => ⟨rfl, rfl⟩, fun z => by omega⟩
    · obtain ⟨x, hx⟩ := zl_is_ok h2.2.2 (j := 180 + 900 * n + 2 + (8 * c + j)) (by omega) (by omega) (by omega)
      exact ⟨x, _, _, hx, fun z => by omega, fun _ => ⟨rfl, rfl⟩⟩
/-- a law's text that stays, by the numbers that it spans -/
theorem zl_congr {f g : Nat → Int} {b : Nat} (h : zk_law f b) (he : ∀ j, j < 900 → g (b + j) = f (b + j)) (hb : ∀ c : Nat, c < 12 → ∀ j, 3 ≤ j → j ≤ 6 → f (b + 2 + 8 * c + j) ≤ 400) : zk_law g b := by
  intro c hc hn
  have e2 : ∀ i, i < 8 → g (b + 2 + 8 * c + i) = f (b + 2 + 8 * c + i) := fun i hi => by
    have := he (2 + 8 * c + i) (by omega)
    rw [show b + (2 + 8 * c + i) = b + 2 + 8 * c + i by omega] at this
    exact this
  have hn' : (c : Int) < f (b + 1) := by rw [← he 1 (by decide)]; exact hn
  obtain ⟨h1, h2⟩ := h c hc hn'
  have e20 : g (b + 2 + 8 * c) = f (b + 2 + 8 * c) := e2 0 (by decide)
  have cr : ∀ {x y : Int}, y ≤ 400 → zk_cr (fun k => f (b + 98 + 2 * k)) (fun k => f (b + 98 + 2 * k + 1)) x.toNat y.toNat → zk_cr (fun k => g (b + 98 + 2 * k)) (fun k => g (b + 98 + 2 * k + 1)) x.toNat y.toNat := fun {x y} hy z => zh_crc z (fun q q1 q2 => by
    have h3 := he (98 + 2 * q) (by omega)
    have h4 := he (98 + 2 * q + 1) (by omega)
    rw [show b + (98 + 2 * q) = b + 98 + 2 * q by omega] at h3
    rw [show b + (98 + 2 * q + 1) = b + 98 + 2 * q + 1 by omega] at h4
    exact ⟨h3.symm, h4.symm⟩)
  refine ⟨fun g1 => ?_, fun g1 => ?_⟩
  · rw [e2 5 (by decide), e2 6 (by decide)] at g1 ⊢
    exact cr (hb c hc 6 (by decide) (by decide)) (h1 g1)
  · rw [e20] at g1
    rw [e2 3 (by decide), e2 4 (by decide)]
    exact cr (hb c hc 4 (by decide) (by decide)) (h2 g1)
theorem zp_up_nl {F : Nat → va_E} {G : Nat → Nat → Int} (hF : zp_n F = G) {a j n : Nat} {cA : ClassId} {f : Nat → Int64} {v : Int} (o1 : F a = .inl (cA, n, .inr (.inl f))) (hj : j < n) (hr : zk_rg 1 v) : zp_n (zk_up F a (.inl (cA, n, .inr (.inl (zk_up f j (Int64.ofInt v)))))) = zp_set G a (2000 + j) v := by
  funext b i
  by_cases hba : b = a
  · subst hba
    by_cases hij : i = 2000 + j
    · subst hij
      rw [zp_set_self]
      unfold zp_n
      rw [zk_up_self, zk_rd_l hj, zk_up_self]
      exact zk_i64 hr
    · rw [zp_set_ne (Or.inr hij), ← hF]
      unfold zp_n
      have e : zk_rd (.inl (cA, n, .inr (.inl (zk_up f j (Int64.ofInt v))))) i = zk_rd (.inl (cA, n, .inr (.inl f))) i := by
        unfold zk_rd
        dsimp only
        by_cases c1 : i = 1000
        · rw [if_pos c1, if_pos c1]
        · rw [if_neg c1, if_neg c1]
          by_cases c2 : 2000 ≤ i ∧ i - 2000 < n
          · rw [if_pos c2, if_pos c2]
            show some (Value.long (zk_up f j (Int64.ofInt v) (i - 2000))) = some (.long (f (i - 2000)))
            rw [zk_up_ne (by omega)]
          · rw [if_neg c2, if_neg c2]
      rw [zk_up_self, o1, e]
  · rw [zp_set_ne (Or.inl hba), ← hF]
    unfold zp_n
    rw [zk_up_ne hba]
section ZP67B
variable {p : Program} {l : Launch} {e : Env} {R : Room} {s : State} {m : MethodId} {args : Array Value} {below : List Frame} {meth : Method} {c : Code} {Q : State → Prop}
variable {cc : ByteArray} {w : zk_W} {u : zk_M} {Ts : List Jvm.Cond} {own : String}
variable {xs : List Nat} {pc : Nat} {L : List (Nat × Nat × Int)} {S : List (Nat × Int)} {P : Nat → Option Nat} {G : Nat → Nat → Int}
theorem zp_neg (hx : p.tables.exec = Jvm.exec) (hb : c.code = cc) {a n : Int} (hdg : decode cc pc = .ok (.ineg, 1)) (hn : -a = n) (hr : zk_rg 0 n) (kk : zp_J p l e R s m args below meth c Q w u xs (pc + 1) L ((0, n) :: S) P G) : zp_J p l e R s m args below meth c Q w u xs pc L ((0, a) :: S) P G := by
  subst hn
  intro F H locs ls hF hI hL hkL hkS
  refine zw_un (o := 0) hx hb rfl hdg ?_
  have e : zk_un 0 (Int32.ofInt a) = Int32.ofInt (-a) := by show -Int32.ofInt a = _; rw [← Int32.ofInt_neg]
  rw [e]
  exact kk F H locs ls hF hI hL hkL (List.forall_mem_cons.mpr ⟨zp_k0 hr, (zp_tl hkS).2⟩)
theorem zp_last (hx : p.tables.exec = Jvm.exec) (hb : c.code = cc) (hw : w.1 = zt_types) {eff : List (Nat × Nat × Nat)} (heff : u.2.2.2.1 = eff) {a t j len x : Nat} {i v : Int} (hdg : decode cc pc = .ok (.lastore, 1)) (ha : zp_ia 2 t = some (len, 1, x, -9223372036854775808, 9223372036854775807)) (hp : P a = some t) (hi' : i = (j : Int)) (hj : j < len) (hb2 : (decide (len ≤ 1000000000) && zp_eb eff t 1001) = true) (kk : zp_J p l e R s m args below meth c Q w u xs (pc + 1) L S P (zp_set G a (2000 + j) v)) : zp_J p l e R s m args below meth c Q w u xs pc L ((1, v) :: (0, i) :: (2, (a : Int)) :: S) P G := by
  obtain ⟨T, hT, h1, t3, t4⟩ := zp_ia_ok ha
  rw [Bool.and_eq_true, decide_eq_true_eq] at hb2
  intro F H locs ls hF hI hL hkL hkS
  rw [← hw] at hT
  obtain ⟨cA, n, f, o1, o2, o3, o4, o5, o6, o7⟩ := zp_larr hI.1 hp hT h1
  obtain ⟨k1, k2⟩ := zp_tl hkS
  obtain ⟨k3, k4⟩ := zp_tl k2
  obtain ⟨i1, i2⟩ := zp_ix (n := n) hi' (by omega) k3.2.1
  show W p l e R s m args below meth c H locs 0 0 Q (F0 m pc ls (.long (Int64.ofInt v) :: .int (Int32.ofInt i) :: zk_mk 2 (a : Int) :: S.map (fun q => zk_mk q.1 q.2)))
  rw [zp_ref]
  refine zw_last hx hb o6 o4 i1 hdg (fun H1 jj e1 hz hk => ?_)
  rw [i2] at e1
  refine kk _ H1 _ ls (zp_up_nl hF o1 (by omega) k1.2.1) (zp_wr hI hp hT (pk := fun k => k = 2000 + j) ?_ (show va_at _ _ (a, .inl (cA, n, .inr (.inl (zk_up f j (Int64.ofInt v))))) H1 from e1) hz hk ?_ (fun k hk2 => ?_) (Or.inr trivial)) hL hkL (zp_tl k4).2
  · unfold zk_el
    rw [h1]
    refine ⟨cA, n, _, rfl, o2, o3, o4, fun i' hi' => ?_⟩
    by_cases hij : i' = j
    · subst hij
      rw [zk_up_self, t4]
      exact ⟨v, zp_o1 k1.2.1, rfl⟩
    · rw [zk_up_ne hij]
      exact o5 i' hi'
  · rw [o1]
    refine ⟨rfl, rfl, fun i' hi' hP => ?_⟩
    show some (Value.long (f i')) = some (.long (zk_up f j _ i'))
    rw [zk_up_ne (fun e => hP (by rw [e]))]
  · subst hk2
    rw [heff]
    exact zp_eb_ok hb2.2 (zp_1001 (by omega))
theorem zp_zast (hx : p.tables.exec = Jvm.exec) (hb : c.code = cc) (hw : w.1 = zt_types) {eff : List (Nat × Nat × Nat)} (heff : u.2.2.2.1 = eff) {a t j len x : Nat} {i v lo hi : Int} (hdg : decode cc pc = .ok (.bastore, 1)) (ha : zp_ia 4 t = some (len, 0, x, lo, hi)) (hp : P a = some t) (hi' : i = (j : Int)) (hj : j < len) (hok : zk_ok P (0, x, lo, hi) v) (h01 : v = 0 ∨ v = 1) (hb2 : (decide (len ≤ 1000000000) && (t != 59 && (t != 60 && zp_eb eff t 1001))) = true) (kk : zp_J p l e R s m args below meth c Q w u xs (pc + 1) L S P (zp_set G a (2000 + j) v)) : zp_J p l e R s m args below meth c Q w u xs pc L ((0, v) :: (0, i) :: (2, (a : Int)) :: S) P G := by
  obtain ⟨T, hT, h1, t3, t4⟩ := zp_ia_ok ha
  simp only [Bool.and_eq_true, decide_eq_true_eq, bne_iff_ne] at hb2
  intro F H locs ls hF hI hL hkL hkS
  rw [← hw] at hT
  obtain ⟨cA, n, f, o1, o2, o3, o4, o5, o6, o7⟩ := zp_iarr hI.1 hp hT (Or.inr h1)
  obtain ⟨k1, k2⟩ := zp_tl hkS
  obtain ⟨k3, k4⟩ := zp_tl k2
  obtain ⟨i1, i2⟩ := zp_ix (n := n) hi' (by omega) k3.2.1
  show W p l e R s m args below meth c H locs 0 0 Q (F0 m pc ls (.int (Int32.ofInt v) :: .int (Int32.ofInt i) :: zk_mk 2 (a : Int) :: S.map (fun q => zk_mk q.1 q.2)))
  rw [zp_ref]
  refine zw_zast hx hb o6 (by rw [h1] at o4; exact o4) i1 (by rcases h01 with rfl | rfl <;> decide) hdg (fun H1 jj e1 hz hk => ?_)
  rw [i2] at e1
  refine kk _ H1 _ ls (zp_up_n hF o1 (by omega) k1.2.1) (zp_wr hI hp hT (pk := fun k => k = 2000 + j) ?_ (show va_at _ _ (a, .inl (cA, n, .inl (zk_up f j (Int32.ofInt v)))) H1 from e1) hz hk ?_ (fun k hk2 => ?_) (Or.inr ⟨fun e => absurd e hb2.2.1, fun e => absurd e hb2.2.2.1⟩)) hL hkL (zp_tl k4).2
  · unfold zk_el
    rw [h1]
    refine ⟨cA, n, _, rfl, o2, o3, by rw [h1] at o4; exact o4, fun i' hi' => ?_⟩
    by_cases hij : i' = j
    · subst hij
      rw [zk_up_self, t4]
      exact ⟨v, hok, rfl⟩
    · rw [zk_up_ne hij]
      exact o5 i' hi'
  · rw [o1]
    refine ⟨rfl, rfl, fun i' hi' hP => ?_⟩
    show some (Value.int (f i')) = some (.int (zk_up f j _ i'))
    rw [zk_up_ne (fun e => hP (by rw [e]))]
  · subst hk2
    rw [heff]
    exact zp_eb_ok hb2.2.2.2 (zp_1001 (by omega))
end ZP67B
