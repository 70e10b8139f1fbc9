/-! part 56: the parser: next -/
theorem zp_rg0 {n : Int} (h : zk_rg 0 n) : -2147483648 ≤ n ∧ n ≤ 2147483647 := h
def zn3 (srt f t tp : Nat) (v : Int) : Prop := (srt ≠ 0 → srt ≠ 2 → f < t) ∧ (srt = 2 → f < t ∨ (t = f ∧ f < tp ∧ 48 ≤ v ∧ v ≤ 57))
def zn2 (srt f t tp : Nat) (v : Int) : Prop := (srt = 3 → f < t) ∧ (srt = 1 → f < t ∨ (t = f ∧ f < tp ∧ 97 ≤ v ∧ v ≤ 122)) ∧ (srt = 2 → t = f ∧ f < tp ∧ 48 ≤ v ∧ v ≤ 57)
