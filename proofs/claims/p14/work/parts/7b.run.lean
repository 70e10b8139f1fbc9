/-! part 7b: runOne -/
theorem zp_00 {ps : List Int} {a : Nat} (h : ps[0]? = some (a : Int)) : zp_0 ps = a := by
  unfold zp_0
  rw [List.getD_eq_getElem?_getD, h]
  exact Int.toNat_natCast a
section ZP7B
variable {p : Program} {l : Launch} {e : Env} {R : Room} {s : State} {m : MethodId} {args : Array Value} {below : List Frame} {meth : Method} {c : Code} {Q : State → Prop}
variable {cc : ByteArray} {w : zk_W} {u : zk_M} {Ts : List Jvm.Cond} {own : String}
variable {pc : Nat} {L : List (Nat × Nat × Int)} {S : List (Nat × Int)} {P : Nat → Option Nat} {G : Nat → Nat → Int}
/-- fewer locals are looked at -/
theorem zp_drop {L' : List (Nat × Nat × Int)} (hs : ∀ q ∈ L', q ∈ L) (kk : zp_J p l e R s m args below meth c Q w u [] pc L' S P G) : zp_J p l e R s m args below meth c Q w u [] pc L S P G := by
  intro F H locs ls hF hI hL hkL hkS
  refine kk F H locs ls hF hI ⟨hL.1, hL.2.1, fun q h => ?_⟩ (fun q h => hkL q (hs q h)) hkS
  obtain ⟨r, h1, rfl⟩ := List.mem_map.mp h
  exact hL.2.2 _ (List.mem_map.mpr ⟨r, hs r h1, rfl⟩)
end ZP7B