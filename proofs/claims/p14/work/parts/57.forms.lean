/-! part 57: the parser: what its rows of numbers keep -/
/-- of the first n of the pile: how many will be written out, how many take two -/
noncomputable def zi_E (pl : Nat → Int) : Nat → Nat
  | 0 => 0
  | n + 1 => zi_E pl n + (if pl n = 29 ∨ pl n = 30 then 0 else 1)
noncomputable def zi_B (pl : Nat → Int) : Nat → Nat
  | 0 => 0
  | n + 1 => zi_B pl n + (if 20 ≤ pl n ∧ pl n ≤ 27 then 1 else 0)
/-- the pile's and the code's bounds: fr is how far it is read -/
noncomputable def zi_wk (first nc pd : Nat) (fr : Int) (pl pa : Nat → Int) : Prop := first ≤ nc ∧ ((nc + zi_E pl pd : Nat) : Int) ≤ fr ∧ (pd : Int) ≤ fr ∧ ∀ i, i < pd → 20 ≤ pl i ∧ pl i ≤ 32 ∧ ((pl i = 29 ∨ pl i = 30) → (first : Int) ≤ pa i ∧ pa i < nc)
noncomputable def zi_jp (ar pl pa : Nat → Int) (nc pd : Nat) (d : Nat → Nat) (q : Nat) : Prop := ((q : Int) < ar q ∧ ar q ≤ nc ∧ d (ar q).toNat = d q) ∨ ∃ i, i < pd ∧ (pl i = 29 ∨ pl i = 30) ∧ pa i = q
/-- one place of the code, by the depth of the stack -/
noncomputable def zi_node (op ar pl pa : Nat → Int) (nc pd : Nat) (d : Nat → Nat) (q : Nat) : Prop := 0 ≤ op q ∧ ((op q < 20 ∧ op q ≤ 12 ∧ d (q + 1) = d q + 1) ∨ (20 ≤ op q ∧ op q < 28 ∧ 2 ≤ d q ∧ d (q + 1) + 1 = d q) ∨ (op q = 28 ∧ 1 ≤ d q ∧ d (q + 1) = d q) ∨ (28 < op q ∧ 1 ≤ d q ∧ d (q + 1) + 1 = d q ∧ zi_jp ar pl pa nc pd d q))
noncomputable def zi_wf (first x nc pd : Nat) (op ar pl pa : Nat → Int) : Prop := ∃ d : Nat → Nat, d first = 0 ∧ (∀ q, first ≤ q → q < nc → zi_node op ar pl pa nc pd d q) ∧ d nc = zi_B pl pd + x ∧ ∀ i, i < pd → (pl i = 29 ∨ pl i = 30) → d (pa i).toNat = zi_B pl i + 1
/-- above a '[' only what belongs to a sum -/
noncomputable def zi_sq (pd : Nat) (pl : Nat → Int) : Prop := ∀ i, i < pd → pl i = 32 → ∀ j, i < j → j < pd → (20 ≤ pl j ∧ pl j ≤ 24) ∨ pl j = 32
noncomputable def zi_ns (pd : Nat) (pl : Nat → Int) : Prop := ∀ i, i < pd → pl i ≠ 32