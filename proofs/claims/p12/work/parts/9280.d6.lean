/-! part d6: a reference is stored in an array -/
section ZD6
variable {p : Program} {l : Launch} {e : Env} {R : Room} {s : State} {m : MethodId} {args : Array Value} {below : List Frame} {meth : Method} {c : Code} {Q : State → Prop}
variable {cc : ByteArray} {w : zk_W} {u : zk_M} {Ts : List Jvm.Cond} {own : String}
variable {xs : List Nat} {pc : Nat} {L : List (Nat × Nat × Int)} {S : List (Nat × Int)} {P : Nat → Option Nat} {G : Nat → Nat → Int}
theorem zp_up_r {F : Nat → va_E} {G : Nat → Nat → Int} (hF : zp_n F = G) {a j n v : Nat} {cA : ClassId} {f : Nat → Option Nat} (o1 : F a = .inl (cA, n, .inr (.inr (.inr (.inr f))))) (hj : j < n) : zp_n (zk_up F a (.inl (cA, n, .inr (.inr (.inr (.inr (zk_up f j (some v)))))))) = zp_set G a (2000 + j) (v : Int) := by
  have e9 : ∀ (g : Nat → Option Nat) (i : Nat), zk_rd (.inl (cA, n, .inr (.inr (.inr (.inr g))))) i = if i = 1000 then some (.int (Int32.ofNat n)) else if 2000 ≤ i ∧ i - 2000 < n then some (va_rf (g (i - 2000))) else none := fun g i => rfl
  funext b i
  by_cases hba : b = a
  · subst hba
    by_cases hij : i = 2000 + j
    · subst hij
      rw [zp_set_self]
      unfold zp_n
      rw [zk_up_self, e9, if_neg (by omega), if_pos ⟨by omega, by omega⟩, show 2000 + j - 2000 = j by omega, zk_up_self]
      rfl
    · rw [zp_set_ne (Or.inr hij), ← hF]
      unfold zp_n
      have e : zk_rd (.inl (cA, n, .inr (.inr (.inr (.inr (zk_up f j (some v))))))) i = zk_rd (.inl (cA, n, .inr (.inr (.inr (.inr f))))) i := by
        rw [e9, e9]
        by_cases c1 : i = 1000
        · rw [if_pos c1, if_pos c1]
        · rw [if_neg c1, if_neg c1]
          by_cases c2 : 2000 ≤ i ∧ i - 2000 < n
          · rw [if_pos c2, if_pos c2, zk_up_ne (by omega)]
          · rw [if_neg c2, if_neg c2]
      rw [zk_up_self, o1, e]
  · rw [zp_set_ne (Or.inl hba), ← hF]
    unfold zp_n
    rw [zk_up_ne hba]
theorem zp_aast (hx : p.tables.exec = Jvm.exec) (hb : c.code = cc) {E : zk_Ev} (hE : zk_ctx l R s m args meth c w u zt_TB own zt_TB zt_mn E) (hw : w.1 = zt_types) {eff : List (Nat × Nat × Nat)} (heff : u.2.2.2.1 = eff) {a t j v t2 : Nat} {T T2 : zk_T} {i lo hi : Int} (hdg : decode cc pc = .ok (.aastore, 1)) (hT : zt_types[t]? = some T) (h1 : T.1 = 3) (hf : zk_f0 T = (2, t2, lo, hi)) (hT2 : zt_types[t2]? = some T2) (h2 : T2.1 = 0) (hp : P a = some t) (hv : P v = some t2) (hok : zk_ok P (2, t2, lo, hi) (v : Int)) (hi' : i = (j : Int)) (hj : j < T.2.1) (hj2 : j ≤ 1000000000) (ht : t ≠ 59 ∧ t ≠ 60) (he : zp_eb eff t 1001 = true) (kk : zp_J p l e R s m args below meth c Q w u xs (pc + 1) L S P (zp_set G a (2000 + j) (v : Int))) : zp_J p l e R s m args below meth c Q w u xs pc L ((2, (v : Int)) :: (0, i) :: (2, (a : Int)) :: S) P G := by
  obtain ⟨-, e4, e5, e6, e7, -⟩ := hE
  intro F H locs ls hF hI hL hkL hkS
  have hTw := hT
  rw [← hw] at hTw
  have hT2w := hT2
  rw [← hw] at hT2w
  obtain ⟨h3, h4, h5⟩ := hI.1.el hp hTw
  unfold zk_el at h3
  rw [h1] at h3
  obtain ⟨cA, n, f, o1, o2, o3, o4, o4', o5⟩ := h3
  rw [o1] at h4
  have o6 : H[a]? = some (vp_cell cA (n, .inr (.inr (.inr (.inr f))))) := h4
  obtain ⟨k1, k2⟩ := zp_tl hkS
  obtain ⟨k3, k4⟩ := zp_tl k2
  obtain ⟨i1, i2⟩ := zp_ix (n := n) hi' (by omega) k3.2.1
  obtain ⟨fs, b1, b2, b3, b4⟩ := zp_obj hI.1 hv hT2w h2
  obtain ⟨r, hr, b5⟩ := b3
  have hrn : zk_rn w T = r.1 := by
    unfold zk_rn
    rw [hf]
    dsimp only
    rw [hT2w]
    dsimp only
    rw [List.getD_eq_getElem?_getD, hr]
    rfl
  rw [hrn] at o4 o4'
  show W p l e R s m args below meth c H locs 0 0 Q (F0 m pc ls (zk_mk 2 (v : Int) :: .int (Int32.ofInt i) :: zk_mk 2 (a : Int) :: S.map (fun q => zk_mk q.1 q.2)))
  rw [zp_ref, zp_ref]
  have hfj : ∀ i, zk_fj T i = (2, t2, lo, hi) := fun i => by
    unfold zk_fj
    rw [hf]
    exact if_neg (show ¬ (2 : Nat) = 9 by decide)
  refine zw_aast hx hb e7 hr o6 o4 o4' i1 (o := some v) (fun v' hv' => by cases hv'; exact ⟨fs, r, hr, b5⟩) hdg (fun H1 jj e1 hz hk => ?_)
  rw [i2] at e1
  refine kk _ H1 _ ls (zp_up_r hF o1 (by omega)) (zp_wr hI hp hTw (pk := fun k => k = 2000 + j) ?_ (show va_at _ _ (a, .inl (cA, n, .inr (.inr (.inr (.inr (zk_up f j (some v))))))) H1 from e1) hz hk ?_ (fun k hk2 => ?_) (Or.inr trivial)) hL hkL (zp_tl k4).2
  · unfold zk_el
    rw [h1]
    refine ⟨cA, n, _, rfl, o2, o3, by rw [hrn]; exact o4, by rw [hrn]; exact o4', fun i' hi2 => ?_⟩
    by_cases hij : i' = j
    · subst hij
      rw [zk_up_self, hfj]
      refine ⟨(v : Int), hok, ?_⟩
      rw [zp_ref]
      rfl
    · rw [zk_up_ne hij]
      exact o5 i' hi2
  · rw [o1]
    refine ⟨rfl, rfl, fun i' hi2 hP => ?_⟩
    show some (va_rf (f i')) = some (va_rf (zk_up f j (some v) i'))
    rw [zk_up_ne (fun e => hP (by rw [e]))]
  · subst hk2
    rw [heff]
    exact zp_eb_ok he (zp_1001 hj2)
end ZD6
