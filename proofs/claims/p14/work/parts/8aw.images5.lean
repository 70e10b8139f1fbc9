/-! part 8aw: image, back, with what they copy -/
theorem zI_num {F : Nat → va_E} {a k : Nat} {v : Value} (h : zk_rd (F a) k = some v) : zp_n F a k = zp_num v := by
  unfold zp_n
  rw [h]
theorem zI_rdq {cA : ClassId} {n j : Nat} {f : Nat → Option Nat} (h : j < n) : zk_rd (.inl (cA, n, .inr (.inr (.inr (.inr f))))) (2000 + j) = some (va_rf (f j)) := by
  unfold zk_rd
  dsimp only
  rw [if_neg (by omega), if_pos ⟨by omega, by omega⟩, Nat.add_sub_cancel_left]
  rfl
section ZI
variable {p : Program} {l : Launch} {e : Env} {R : Room} {s : State} {m : MethodId} {args : Array Value} {below : List Frame} {meth : Method} {c : Code} {Q : State → Prop}
variable {cc : ByteArray} {w : zk_W} {u : zk_M} {Ts : List Jvm.Cond} {own : String}
variable {lk : List zk_L} {KS : List zk_K} {km : List Nat} {lc : List (Nat × Nat × Nat)} {K : zk_K} {P0 P1 : Nat → Option Nat} {X : Nat → Prop} {G0 G1 : Nat → va_E} {ps : List Int}
end ZI