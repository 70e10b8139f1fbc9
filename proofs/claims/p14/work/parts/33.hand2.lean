/-! part 53: by hand: an array read, an array written, a call that asks and tells more -/
noncomputable def zh_d1 : DecidableEq (List (Nat × zk_S) × List (Nat × Nat) × List Nat) := instDecidableEqProd
noncomputable def zh_d2 : DecidableEq (List (Nat × Nat × List zk_S) × List (Nat × zk_S) × List (Nat × Nat) × List Nat) := @instDecidableEqProd _ _ inferInstance zh_d1
noncomputable def zh_d3 : DecidableEq (List (Nat × Nat × zk_S) × List (Nat × Nat × List zk_S) × List (Nat × zk_S) × List (Nat × Nat) × List Nat) := @instDecidableEqProd _ _ inferInstance zh_d2
noncomputable def zh_d4 : DecidableEq (List (Nat × Nat × Int) × List (Nat × Nat × zk_S) × List (Nat × Nat × List zk_S) × List (Nat × zk_S) × List (Nat × Nat) × List Nat) := @instDecidableEqProd _ _ inferInstance zh_d3
noncomputable def zh_d5 : DecidableEq zk_C := @instDecidableEqProd _ _ inferInstance zh_d4
noncomputable def zh_d7 : DecidableEq (zk_C × List zk_S × Nat × Nat) := @instDecidableEqProd _ _ zh_d5 inferInstance
noncomputable def zh_d8 : DecidableEq zk_O := @instDecidableEqProd _ _ inferInstance zh_d7
noncomputable def zh_dL : DecidableEq (Option (List zk_O)) := haveI : DecidableEq zk_O := zh_d8; inferInstance
theorem zh_oe {a b : Option (List zk_O)} (h : @decide (a = b) (zh_dL a b) = true) : a = b := @of_decide_eq_true _ (zh_dL a b) h
section ZK53
variable {p : Program} {l : Launch} {e : Env} {R : Room} {s : State} {m : MethodId} {args : Array Value} {below : List Frame} {meth : Method} {c : Code} {Q : State → Prop}
variable {cc : ByteArray} {w : zk_W} {u : zk_M} {Ts : List Jvm.Cond} {own : String}
/-- a call by a contract that asks and tells more -/
theorem zh_call (hx : p.tables.exec = Jvm.exec) (hb : c.code = cc) {E : zk_Ev} {P0 : Nat → Option Nat} {X : Nat → Prop} (hE : zh_E l R s m args meth c w E P0 X) {ps' : List Int} {kp' : List zk_F} {eff : List (Nat × Nat × Nat)} (hlen : ps'.length = kp'.length) {K : zk_K} {mi : Nat} {A : zk_Q} {B : zk_B} (hKX : zk_metX l w E.2.2.1 zt_TB K A B ∧ zk_cok w zt_TB K) (hmn : K.1 = zt_mn mi) {i : ClassFile.Instr} {len pc : Nat} {κ : zk_C} {st : List zk_S} {cu su : Nat} {outs : List zk_O} (hs : zk_s7 E.1 E.2.2.1 [K] [mi] E.2.2.2.2.2.1 eff (zk_Kr (zk_ev E)) 0 i len pc κ st cu su = some outs) (hdg : decode cc pc = .ok (i, len)) {N : List Int} {P : Nat → Option Nat} {F : Nat → va_E} {H : Heap} {locs : List Loc} {ls : Array Slot} {sv : List Value} (hext : ∀ a t, P0 a = some t → P a = some t) (hG : zk_G w s (P, F, ps', eff, [], (zk_ev E).2.2.1, X) κ N P F H locs ls) (hS : zk_all2 (zk_sv κ.1 N) st sv)
    (hA : ∀ ps : List Int, zk_all2 (fun (q : zk_S) (n : Int) => ∃ k, N[q.1]? = some k ∧ n = k + q.2) (st.take (zk_Kp K).length).reverse ps → A P F ps)
    (kk : ∀ o ∈ outs, ∀ (N' : List Int) (P' : Nat → Option Nat) (F' : Nat → va_E) (H' : Heap) (locs' : List Loc) (ls' : Array Slot) (sv' : List Value) (ps : List Int) (rn : Int), zk_all2 (fun (q : zk_S) (n : Int) => ∃ k, N[q.1]? = some k ∧ n = k + q.2) (st.take (zk_Kp K).length).reverse ps → B P F ps P' F' rn → (N' = N ∨ N' = N ++ [rn]) → zk_G w s (P, F, ps', eff, [], (zk_ev E).2.2.1, X) o.2.1 N' P' F' H' locs' ls' → zk_all2 (zk_sv o.2.1.1 N') o.2.2.1 sv' → W p l e R s m args below meth c H' locs' o.2.2.2.1 o.2.2.2.2 Q (F0 m o.1 ls' sv')) : W p l e R s m args below meth c H locs cu su Q (F0 m pc ls sv) := by
  obtain ⟨⟨e1, e2, e3⟩, e4, e5, e6, e7, e8, e9, e10, e11, e12, e13, e14, e15, e16, e17, e18, e19, y1, y2, y3⟩ := hE [] P F eff [] ps' kp' hlen hext
  refine zk_s7X_ok (u := (P, F, ps', eff, [], (zk_ev E).2.2.1, X)) hx hb (Ts := zt_TB) (own := (zk_ev E).1.cls) (TB := zt_TB) (KS := [K]) (an := 0) (A := A) (B := B) (km := [mi]) (mn := zt_mn) y1 y2 y3 e1 e4 e6 e7 e8 e9 e14 (fun K' h => by cases h; exact hKX) (fun j K' k h1 h2 => ?_) e17 e13 hs hdg hG hS (fun K' ps h hp => by cases h; exact hA ps hp) (fun o ho N' P' F' H' locs' ls' sv' K' ps rn h hp hB hN hG' hS' => by cases h; exact kk o ho N' P' F' H' locs' ls' sv' ps rn hp hB hN hG' hS')
  match j, h1, h2 with
  | 0, h1, h2 => cases h1; cases h2; exact hmn
  | j + 1, h1, h2 => simp at h1
/-- a field that nothing wrote to is the same -/
theorem zh_keep {eff : List (Nat × Nat × Nat)} {ps : List Int} {P0 : Nat → Option Nat} {G0 G : Nat → va_E} (h : zk_ef eff ps P0 G0 G) {a t k : Nat} (hp : P0 a = some t) (hk : k < 1000) (he : eff.all (fun e => e.1 != t || e.2.1 != k) = true) {v : Value} (hv : zk_rd (G0 a) k = some v) : zk_rd (G a) k = some v := by
  have h1 := h a t hp
  have hm : ¬ zk_may eff ps a t k := by
    rintro ⟨q, q1, q2, q3, -⟩
    have h2 := List.all_eq_true.mp he q q1
    simp only [Bool.or_eq_true, bne_iff_ne] at h2
    rcases h2 with h2 | h2
    · exact h2 q2
    · unfold zk_pm zk_er at q3
      split at q3
      · have := q3.1; dsimp only at this; omega
      · split at q3
        · have := q3.1; dsimp only at this; omega
        · split at q3
          · have := q3.1; dsimp only at this; omega
          · split at q3
            · have := q3.1; dsimp only at this; omega
            · have h3 := q3.1; have h4 := q3.2; dsimp only at h3 h4; omega
  cases hG : G0 a with
  | inl x =>
    rw [hG] at hv
    unfold zk_rd at hv
    dsimp only at hv
    rw [if_neg (by omega), if_neg (by omega)] at hv
    cases hv
  | inr x =>
    cases hG' : G a with
    | inl y => rw [hG, hG'] at h1; exact h1.elim
    | inr y =>
      rw [hG, hG'] at h1
      rw [hG] at hv
      have h2 := h1.2.2 k hm
      show y.2[k]? = some v
      rw [← h2]
      exact hv
/-- what is known of a number of an array -/
theorem zh_elf {V : List zk_F} {N : List Int} {P : Nat → Option Nat} {F : Nat → va_E} {A : List (Nat × Nat × zk_S)} (h : zk_fa V N P F A) {x r k y : Nat} (hm : (x, k, (y, 0)) ∈ A) {j : Nat} (hk : k = 2000 + j) (hx : N[x]? = some (r : Int)) {cA : ClassId} {n : Nat} {f : Nat → Int32} (hF : F r = .inl (cA, n, .inl f)) {t : Nat} {lo hi : Int} (hV : V[y]? = some (0, t, lo, hi)) {v : Int} (hy : N[y]? = some v) : (f j).toInt = v := by
  subst hk
  obtain ⟨u, r1, s1⟩ := zh_rdf h hm hx
  obtain ⟨rfl, rg⟩ := zh_vi s1 hV hy
  rw [hF] at r1
  unfold zk_rd at r1
  dsimp only at r1
  rw [if_neg (by omega), Nat.add_sub_cancel_left] at r1
  split at r1
  · have r2 : some (Value.int (f j)) = some (.int (Int32.ofInt (v + 0))) := r1
    rw [Value.int.inj (Option.some.inj r2), zk_i32 rg, Int.add_zero]
  · cases r1
theorem zh_crc {co ca co' ca' : Nat → Int} {first last : Nat} (h : zk_cr co ca first last) (he : ∀ q, first ≤ q → q < last → co q = co' q ∧ ca q = ca' q) : zk_cr co' ca' first last := by
  obtain ⟨d, e1, e2⟩ := h
  refine ⟨d, e1, fun q g1 g2 => ?_⟩
  have := e2 q g1 g2
  rw [(he q g1 g2).1, (he q g1 g2).2] at this
  exact this
theorem zh_crf {f fB : Nat → Int32} {n b x y : Nat} {v1 v2 : Int} (hfe : ∀ j, j < n → fB j = f j) (hn : 5580 ≤ n) (hb : b ≤ 4680) (h1 : (fB x).toInt = v1) (hx : x < n) (h2 : (fB y).toInt = v2) (hy : y < n) (hv : v2 ≤ 400) (hc : zk_cr (fun k => (f (b + 98 + 2 * k)).toInt) (fun k => (f (b + 98 + 2 * k + 1)).toInt) (f x).toInt.toNat (f y).toInt.toNat) : zk_cr (fun k => (fB (b + 98 + 2 * k)).toInt) (fun k => (fB (b + 98 + 2 * k + 1)).toInt) v1.toNat v2.toNat := by
  rw [← hfe x hx, ← hfe y hy, h1, h2] at hc
  refine zh_crc hc (fun q g1 g2 => ?_)
  have hq : q < 400 := by omega
  rw [hfe _ (by omega), hfe _ (by omega)]
  exact ⟨rfl, rfl⟩
theorem zh_p3 {N : List Int} {x1 x2 x3 : Nat} {ps : List Int} (h : zk_all2 (fun (q : zk_S) (n : Int) => ∃ k, N[q.1]? = some k ∧ n = k + q.2) [(x1, 0), (x2, 0), (x3, 0)] ps) {v1 v2 v3 : Int} (h1 : N[x1]? = some v1) (h2 : N[x2]? = some v2) (h3 : N[x3]? = some v3) : ps = [v1, v2, v3] := by
  obtain ⟨n1, s1, rfl, ⟨k1, e1, rfl⟩, hs1⟩ := zk_all2_cons h
  obtain ⟨n2, s2, rfl, ⟨k2, e2, rfl⟩, hs2⟩ := zk_all2_cons hs1
  obtain ⟨n3, s3, rfl, ⟨k3, e3, rfl⟩, hs3⟩ := zk_all2_cons hs2
  cases h1.symm.trans e1
  cases h2.symm.trans e2
  cases h3.symm.trans e3
  match s3, hs3 with
  | [], _ => simp only [Int.add_zero]
theorem zh_p2 {N : List Int} {x1 x2 : Nat} {o2 : Int} {ps : List Int} (h : zk_all2 (fun (q : zk_S) (n : Int) => ∃ k, N[q.1]? = some k ∧ n = k + q.2) [(x1, 0), (x2, o2)] ps) {v1 v2 : Int} (h1 : N[x1]? = some v1) (h2 : N[x2]? = some v2) : ps = [v1, v2 + o2] := by
  obtain ⟨n1, s1, rfl, ⟨k1, e1, rfl⟩, hs1⟩ := zk_all2_cons h
  obtain ⟨n2, s2, rfl, ⟨k2, e2, rfl⟩, hs2⟩ := zk_all2_cons hs1
  cases h1.symm.trans e1
  cases h2.symm.trans e2
  match s2, hs2 with
  | [], _ => simp only [Int.add_zero]
/-- the law of the row -/
theorem zh_lawR {P : Nat → Option Nat} {F : Nat → va_E} {H : Heap} (h : zk_wt w s P F H) {r : Nat} (hp : P r = some 59) {T : zk_T} (hT : w.1[59]? = some T) {cA : ClassId} {n : Nat} {f : Nat → Int32} (hF : F r = .inl (cA, n, .inl f)) : zk_laws (fun j => (f j).toInt) 0 := by
  have h1 := h r 59 hp
  rw [zk_wt1.some hT, hF] at h1
  exact (h1.2.2.2).1 rfl
end ZK53
section ZK53B
variable {p : Program} {l : Launch} {e : Env} {R : Room} {s : State} {m : MethodId} {args : Array Value} {below : List Frame} {meth : Method} {c : Code} {Q : State → Prop}
variable {cc : ByteArray} {w : zk_W} {u : zk_M} {Ts : List Jvm.Cond} {own : String}
/-- a field whose type leaves one number -/
theorem zh_fk {P : Nat → Option Nat} {F : Nat → va_E} {H : Heap} (h : zk_wt w s P F H) {a t k : Nat} {T : zk_T} (hp : P a = some t) (hT : w.1[t]? = some T) (h0 : T.1 = 0) {x : Nat} {n : Int} (hf : T.2.2.2[k]? = some (0, x, n, n)) : zk_rd (F a) k = some (.int (Int32.ofInt n)) := by
  obtain ⟨fs, e1, e2, -⟩ := zk_obj h hp hT h0
  obtain ⟨v, z1, y, y1, z2⟩ := zk_all2_get e2 hf
  have y1 : n ≤ y ∧ y ≤ n ∧ zk_rg 0 y := y1
  obtain rfl : y = n := by omega
  rw [e1]
  show fs[k]? = _
  rw [z1, z2]
  rfl
end ZK53B
