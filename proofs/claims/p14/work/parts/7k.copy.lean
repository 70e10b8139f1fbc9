/-! part 7k: System.arraycopy of ints from the beginning, over memory as numbers -/
section ZP7K
variable {p : Program} {l : Launch} {e : Env} {R : Room} {s : State} {m : MethodId} {args : Array Value} {below : List Frame} {meth : Method} {c : Code} {Q : State → Prop}
variable {cc : ByteArray} {w : zk_W} {u : zk_M} {Ts : List Jvm.Cond} {own : String}
variable {xs : List Nat} {pc : Nat} {L : List (Nat × Nat × Int)} {S : List (Nat × Int)} {P : Nat → Option Nat} {G : Nat → Nat → Int}
theorem zp_wrL {F : Nat → va_E} {H H1 : Heap} {locs : List Loc} (hI : zp_I w s u xs P F H locs) {a t : Nat} {T : zk_T} {e : va_E} (hp : P a = some t) (hT : w.1[t]? = some T) (he : zk_el w s P T e) (hat : va_at w.2.2.1 w.2.1 (a, e) H1) (hz : H1.size = H.size) (hk : ∀ q, q ≠ a → H1[q]? = H[q]?) {Lc : List Loc} (hLc : ∀ q ∈ Lc, q.base = a) {pk : Nat → Prop} (hs : zk_same pk (F a) e) (hm : ∀ k, pk k → zk_may u.2.2.2.1 u.2.2.1 a t k) (hrl : a ∈ xs ∨ zk_rl P (zk_up F a e) t e) : zp_I w s u xs P (zk_up F a e) H1 (locs ++ Lc) := by
  obtain ⟨h5, h7, h8, h9, h13⟩ := hI
  have hb := (h5.el hp hT).2.2
  refine ⟨h5.put hp hT he hat hk (fun cA x h => hs.len h) hrl, h7, zk_ef_put h8 h7 hp hs (Or.inr hm), ⟨by rw [hz]; exact h9.1, fun q g1 g2 => ?_, fun q hq => ?_⟩, fun q g1 g2 => ⟨(h13 q g1 g2).1, (hk q (fun e1 => by rw [e1] at g1 g2; rw [(h13 a g1 g2).1] at hp; cases hp)).trans (h13 q g1 g2).2⟩⟩
  · rw [hk q (fun e1 => g2 (by rw [e1]; exact hb))]
    exact h9.2.1 q g1 g2
  · rcases List.mem_append.mp hq with g | g
    · exact h9.2.2 q g
    · rw [hLc q g]
      exact hb
end ZP7K
