/-! part d6: a reference is stored in an array -/
section ZD6
variable {p : Program} {l : Launch} {e : Env} {R : Room} {s : State} {m : MethodId} {args : Array Value} {below : List Frame} {meth : Method} {c : Code} {Q : State → Prop}
variable {cc : ByteArray} {w : zk_W} {u : zk_M} {Ts : List Jvm.Cond} {own : String}
variable {xs : List Nat} {pc : Nat} {L : List (Nat × Nat × Int)} {S : List (Nat × Int)} {P : Nat → Option Nat} {G : Nat → Nat → Int}
theorem zp_up_r {F : Nat → va_E} {G : Nat → Nat → Int} (hF : zp_n F = G) {a j n v : Nat} {cA : ClassId} {f : Nat → Option Nat} (o1 : F a = .inl (cA, n, .inr (.inr (.inr (.inr f))))) (hj : j < n) : zp_n (zk_up F a (.inl (cA, n, .inr (.inr (.inr (.inr (zk_up f j (some v)))))))) = zp_set G a (2000 + j) (v : Int) := by
  have e9 : ∀ (g : Nat → Option Nat) (i : Nat), zk_rd (.inl (cA, n, .inr (.inr (.inr (.inr g))))) i = if i = 1000 then some (.int (Int32.ofNat n)) else if 2000 ≤ i ∧ i - 2000 < n then some (va_rf (g (i - 2000))) else none := fun g i => rfl
  funext b i
  by_cases hba : b = a
  · subst hba
    by_cases hij : i = 2000 + j
    · subst hij
      rw [zp_set_self]
      unfold zp_n
      rw [zk_up_self, e9, if_neg (by omega), if_pos ⟨by omega, by omega⟩, show 2000 + j - 2000 = j by omega, zk_up_self]
      rfl
    · rw [zp_set_ne (Or.inr hij), ← hF]
      unfold zp_n
      have e : zk_rd (.inl (cA, n, .inr (.inr (.inr (.inr (zk_up f j (some v))))))) i = zk_rd (.inl (cA, n, .inr (.inr (.inr (.inr f))))) i := by
        rw [e9, e9]
        by_cases c1 : i = 1000
        · rw [if_pos c1, if_pos c1]
        · rw [if_neg c1, if_neg c1]
          by_cases c2 : 2000 ≤ i ∧ i - 2000 < n
          · rw [if_pos c2, if_pos c2, zk_up_ne (by omega)]
          · rw [if_neg c2, if_neg c2]
      rw [zk_up_self, o1, e]
  · rw [zp_set_ne (Or.inl hba), ← hF]
    unfold zp_n
    rw [zk_up_ne hba]
end ZD6
