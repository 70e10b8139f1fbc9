/-! part 7k: System.arraycopy of ints from the beginning, over memory as numbers -/
def zp_cp (G : Nat → Nat → Int) (a0 a n : Nat) : Nat → Nat → Int := fun b k => if b = a ∧ 2000 ≤ k ∧ k < 2000 + n then G a0 k else G b k
theorem zp_cp_n {F : Nat → va_E} {a0 a n n0 n1 : Nat} {c0 c1 : ClassId} {f g : Nat → Int32} (o0 : F a0 = .inl (c0, n0, .inl f)) (o1 : F a = .inl (c1, n1, .inl g)) (h0 : n ≤ n0) (h1 : n ≤ n1) : zp_n (zk_up F a (.inl (c1, n1, .inl (va_cpy f g 0 0 n)))) = zp_cp (zp_n F) a0 a n := by
  funext b i
  unfold zp_cp
  by_cases hba : b = a
  · subst hba
    by_cases hi : 2000 ≤ i ∧ i < 2000 + n
    · rw [if_pos ⟨rfl, hi.1, hi.2⟩]
      obtain ⟨j, rfl⟩ : ∃ j, i = 2000 + j := ⟨i - 2000, by omega⟩
      unfold zp_n
      rw [zk_up_self, zk_rd_i (by omega), o0, zk_rd_i (by omega)]
      unfold va_cpy
      rw [if_pos ⟨by omega, by omega⟩, show 0 + (j - 0) = j by omega]
    · rw [if_neg (fun h => hi h.2)]
      unfold zp_n
      have e : zk_rd (.inl (c1, n1, .inl (va_cpy f g 0 0 n))) i = zk_rd (.inl (c1, n1, .inl g)) i := by
        unfold zk_rd
        dsimp only
        by_cases c1 : i = 1000
        · rw [if_pos c1, if_pos c1]
        · rw [if_neg c1, if_neg c1]
          by_cases c2 : 2000 ≤ i ∧ i - 2000 < n1
          · rw [if_pos c2, if_pos c2]
            show some (Value.int (va_cpy f g 0 0 n (i - 2000))) = some (.int (g (i - 2000)))
            unfold va_cpy
            rw [if_neg (by omega)]
          · rw [if_neg c2, if_neg c2]
      rw [zk_up_self, o1, e]
  · rw [if_neg (fun h => hba h.1)]
    unfold zp_n
    rw [zk_up_ne hba]
section ZP7K
variable {p : Program} {l : Launch} {e : Env} {R : Room} {s : State} {m : MethodId} {args : Array Value} {below : List Frame} {meth : Method} {c : Code} {Q : State → Prop}
variable {cc : ByteArray} {w : zk_W} {u : zk_M} {Ts : List Jvm.Cond} {own : String}
variable {xs : List Nat} {pc : Nat} {L : List (Nat × Nat × Int)} {S : List (Nat × Int)} {P : Nat → Option Nat} {G : Nat → Nat → Int}
theorem zp_wrL {F : Nat → va_E} {H H1 : Heap} {locs : List Loc} (hI : zp_I w s u xs P F H locs) {a t : Nat} {T : zk_T} {e : va_E} (hp : P a = some t) (hT : w.1[t]? = some T) (he : zk_el w s P T e) (hat : va_at w.2.2.1 w.2.1 (a, e) H1) (hz : H1.size = H.size) (hk : ∀ q, q ≠ a → H1[q]? = H[q]?) {Lc : List Loc} (hLc : ∀ q ∈ Lc, q.base = a) {pk : Nat → Prop} (hs : zk_same pk (F a) e) (hm : ∀ k, pk k → zk_may u.2.2.2.1 u.2.2.1 a t k) (hrl : a ∈ xs ∨ zk_rl P (zk_up F a e) t e) : zp_I w s u xs P (zk_up F a e) H1 (locs ++ Lc) := by
  obtain ⟨h5, h7, h8, h9, h13⟩ := hI
  have hb := (h5.el hp hT).2.2
  refine ⟨h5.put hp hT he hat hk (fun cA x h => hs.len h) hrl, h7, zk_ef_put h8 h7 hp hs (Or.inr hm), ⟨by rw [hz]; exact h9.1, fun q g1 g2 => ?_, fun q hq => ?_⟩, fun q g1 g2 => ⟨(h13 q g1 g2).1, (hk q (fun e1 => by rw [e1] at g1 g2; rw [(h13 a g1 g2).1] at hp; cases hp)).trans (h13 q g1 g2).2⟩⟩
  · rw [hk q (fun e1 => g2 (by rw [e1]; exact hb))]
    exact h9.2.1 q g1 g2
  · rcases List.mem_append.mp hq with g | g
    · exact h9.2.2 q g
    · rw [hLc q g]
      exact hb
theorem zp_copy (hx : p.tables.exec = Jvm.exec) (hb : c.code = cc) {E : zk_Ev} (hE : zk_ctx l R s m args meth c w u zt_TB own zt_TB zt_mn E) (hw : w.1 = zt_types) {eff : List (Nat × Nat × Nat)} (heff : u.2.2.2.1 = eff) {rm : Nat × Nat × Nat × Nat} (hrm : zk_Kr (zk_ev E) = rm) {idx j x y a0 a t0 t n : Nat} {z v : Int} {T0 T : zk_T} (hdg : decode cc pc = .ok (.invokestatic idx, 3)) (hlk : E.2.1[j]? = some (8, idx, x, y, z)) (hT0 : zt_types[t0]? = some T0) (hT : zt_types[t]? = some T) (h10 : T0.1 = 1) (h1 : T.1 = 1) (hp0 : P a0 = some t0) (hp : P a = some t) (hv : v = (n : Int)) (hn0 : n ≤ T0.2.1) (hn : n ≤ T.2.1) (hnb : n ≤ 1000000000) (hfit : ∀ j, j < n → zk_fj T0 j = zk_fj T j) (hrm2 : 1 ≤ rm.1 ∧ 26 ≤ rm.2.1) (hcs : zp_cs S ≤ 8) (hx2 : a ∈ xs ∨ (t ≠ 59 ∧ t ≠ 60)) (he : zp_eb eff t 1001 = true) (kk : zp_J p l e R s m args below meth c Q w u xs (pc + 3) L S P (zp_cp G a0 a n)) : zp_J p l e R s m args below meth c Q w u xs pc L ((0, v) :: (0, 0) :: (2, (a : Int)) :: (0, 0) :: (2, (a0 : Int)) :: S) P G := by
  obtain ⟨⟨e1, e2, e3⟩, e4, e5, e6, e7, e8, e9, e10, e11, e12, e13, -⟩ := hE
  have e14 := e10 _ (List.mem_of_getElem? hlk)
  subst hv
  rw [hrm] at e13
  intro F H locs ls hF hI hL hkL hkS
  rw [← hw] at hT0 hT
  obtain ⟨cA0, n0, f, o1, o2, o3, o4, o5, o6, o7⟩ := zp_iarr hI.1 hp0 hT0 (Or.inl h10)
  obtain ⟨cA, n1, g, y1, y2, y3, y4, y5, y6, y7⟩ := zp_iarr hI.1 hp hT (Or.inl h1)
  have k4 := (zp_tl (zp_tl (zp_tl (zp_tl (zp_tl hkS).2).2).2).2).2
  have nz : ∀ {z : Int}, zk_rg 0 z → 0 ≤ z → ¬ Int32.ofInt z < 0 ∧ (Int32.ofInt z).toNatClampNeg = z.toNat := by
    intro z hz h0
    refine ⟨?_, ?_⟩
    · rw [← zk_z32, zk_lt32 hz ⟨by decide, by decide⟩]
      omega
    · show (Int32.ofInt z).toInt.toNat = _
      rw [zk_i32 hz]
  have q3 := nz (z := (n : Int)) (zp_r0 (by omega) (by omega)) (by omega)
  have q0 := nz (z := 0) (zp_r0 (by decide) (by decide)) (by decide)
  rw [Int.toNat_natCast] at q3
  have q0z : (Int32.ofInt 0).toNatClampNeg = 0 := q0.2
  have hls : c.maxLocals = ls.size := by
    rw [e1]
    exact hL.1.symm
  have hcat : ((S.map (fun q => zk_mk q.1 q.2)).map fun v => v.category).sum ≤ 8 := by
    rw [List.map_map]
    have : (S.map ((fun v => v.category) ∘ fun q => zk_mk q.1 q.2)) = S.map (fun q => if q.1 = 1 then 2 else 1) := List.map_congr_left (fun q _ => zk_mk_cat)
    rw [this]
    exact hcs
  show W p l e R s m args below meth c H locs 0 0 Q (F0 m pc ls (.int (Int32.ofInt (n : Int)) :: .int (Int32.ofInt 0) :: zk_mk 2 (a : Int) :: .int (Int32.ofInt 0) :: zk_mk 2 (a0 : Int) :: S.map (fun q => zk_mk q.1 q.2)))
  rw [zp_ref, zp_ref]
  rw [h10] at o4
  rw [h1] at y4
  refine zw_copyi hx hb hls e6 e14.1 e14.2.1 e14.2.2.1 e14.2.2.2 o6 y6 o4 y4 q0.1 q0.1 q3.1 (by rw [q0z, q3.2]; omega) (by rw [q0z, q3.2]; omega) (by have := e13.1; omega) (by rw [zk_nfw]; have := e13.2.1; omega) hdg (fun H1 Lc z1 z2 z3 z4 => ?_)
  rw [q0z, q3.2] at z1
  refine kk _ H1 _ ls ((zp_cp_n o1 y1 (by omega) (by omega)).trans (by rw [hF])) (zp_wrL hI hp hT (pk := fun k => 2000 ≤ k ∧ k < 2000 + n) ?_ (show va_at _ _ (a, .inl (cA, n1, .inl _)) H1 from z1) z2 z3 z4 ?_ (fun k hk2 => ?_) (hx2.imp (fun h => h) (fun h => ⟨fun e => absurd e h.1, fun e => absurd e h.2⟩))) hL hkL k4
  · unfold zk_el
    rw [h1]
    refine ⟨cA, n1, _, rfl, y2, y3, y4, fun i' hi' => ?_⟩
    show zk_fv P (zk_fj T i') (.int (va_cpy f g 0 0 n i'))
    unfold va_cpy
    by_cases hin : i' < n
    · rw [if_pos ⟨Nat.zero_le _, by omega⟩, show 0 + (i' - 0) = i' by omega, ← hfit i' hin]
      exact o5 i' (by omega)
    · rw [if_neg (by omega)]
      exact y5 i' hi'
  · rw [y1]
    refine ⟨rfl, rfl, fun i' hi' hP => ?_⟩
    show some (Value.int (g i')) = some (.int (va_cpy f g 0 0 n i'))
    unfold va_cpy
    rw [if_neg (fun h => hP ⟨by omega, by omega⟩)]
  · obtain ⟨j', rfl⟩ : ∃ j', k = 2000 + j' := ⟨k - 2000, by omega⟩
    rw [heff]
    exact zp_eb_ok he (zp_1001 (by omega))
end ZP7K
