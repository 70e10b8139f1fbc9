/-! part 57: the parser: what its rows of numbers keep -/
/-- of the first n of the pile: how many will be written out, how many take two -/
def zi_E (pl : Nat → Int) : Nat → Nat
  | 0 => 0
  | n + 1 => zi_E pl n + (if pl n = 29 ∨ pl n = 30 then 0 else 1)
def zi_B (pl : Nat → Int) : Nat → Nat
  | 0 => 0
  | n + 1 => zi_B pl n + (if 20 ≤ pl n ∧ pl n ≤ 27 then 1 else 0)
theorem zi_E_eq {pl pl' : Nat → Int} : ∀ {n : Nat}, (∀ i, i < n → pl' i = pl i) → zi_E pl' n = zi_E pl n
  | 0, _ => rfl
  | n + 1, h => by
    show zi_E pl' n + _ = zi_E pl n + _
    rw [zi_E_eq (fun i hi => h i (by omega)), h n (by omega)]
theorem zi_B_eq {pl pl' : Nat → Int} : ∀ {n : Nat}, (∀ i, i < n → pl' i = pl i) → zi_B pl' n = zi_B pl n
  | 0, _ => rfl
  | n + 1, h => by
    show zi_B pl' n + _ = zi_B pl n + _
    rw [zi_B_eq (fun i hi => h i (by omega)), h n (by omega)]
/-- the pile's and the code's bounds: fr is how far it is read -/
def zi_wk (first nc pd : Nat) (fr : Int) (pl pa : Nat → Int) : Prop := first ≤ nc ∧ ((nc + zi_E pl pd : Nat) : Int) ≤ fr ∧ (pd : Int) ≤ fr ∧ ∀ i, i < pd → 20 ≤ pl i ∧ pl i ≤ 32 ∧ ((pl i = 29 ∨ pl i = 30) → (first : Int) ≤ pa i ∧ pa i < nc)
def zi_jp (ar pl pa : Nat → Int) (nc pd : Nat) (d : Nat → Nat) (q : Nat) : Prop := ((q : Int) < ar q ∧ ar q ≤ nc ∧ d (ar q).toNat = d q) ∨ ∃ i, i < pd ∧ (pl i = 29 ∨ pl i = 30) ∧ pa i = q
/-- one place of the code, by the depth of the stack -/
def zi_node (op ar pl pa : Nat → Int) (nc pd : Nat) (d : Nat → Nat) (q : Nat) : Prop := 0 ≤ op q ∧ ((op q < 20 ∧ op q ≤ 12 ∧ d (q + 1) = d q + 1) ∨ (20 ≤ op q ∧ op q < 28 ∧ 2 ≤ d q ∧ d (q + 1) + 1 = d q) ∨ (op q = 28 ∧ 1 ≤ d q ∧ d (q + 1) = d q) ∨ (28 < op q ∧ 1 ≤ d q ∧ d (q + 1) + 1 = d q ∧ zi_jp ar pl pa nc pd d q))
def zi_wf (first x nc pd : Nat) (op ar pl pa : Nat → Int) : Prop := ∃ d : Nat → Nat, d first = 0 ∧ (∀ q, first ≤ q → q < nc → zi_node op ar pl pa nc pd d q) ∧ d nc = zi_B pl pd + x ∧ ∀ i, i < pd → (pl i = 29 ∨ pl i = 30) → d (pa i).toNat = zi_B pl i + 1
/-- above a '[' only what belongs to a sum -/
def zi_sq (pd : Nat) (pl : Nat → Int) : Prop := ∀ i, i < pd → pl i = 32 → ∀ j, i < j → j < pd → (20 ≤ pl j ∧ pl j ≤ 24) ∨ pl j = 32
def zi_ns (pd : Nat) (pl : Nat → Int) : Prop := ∀ i, i < pd → pl i ≠ 32
theorem zi_jp_mono {ar ar' pl pa pl' pa' : Nat → Int} {nc pd pd' : Nat} {d : Nat → Nat} {e q : Nat} (hq : q < nc) (h : zi_jp ar pl pa nc pd d q) (har : ar' q = ar q) (hp : ∀ i, i < pd → (pl i = 29 ∨ pl i = 30) → pa i = q → ∃ i', i' < pd' ∧ (pl' i' = 29 ∨ pl' i' = 30) ∧ pa' i' = q) : zi_jp ar' pl' pa' (nc + 1) pd' (fun z => if z = nc + 1 then e else d z) q := by
  rcases h with ⟨h1, h2, h3⟩ | ⟨i, h1, h2, h3⟩
  · refine Or.inl ⟨by rw [har]; exact h1, by rw [har]; omega, ?_⟩
    rw [har]
    dsimp only
    rw [if_neg (by omega), if_neg (by omega)]
    exact h3
  · exact Or.inr (hp i h1 h2 h3)
theorem zi_node_app {op ar op' ar' pl pa pl' pa' : Nat → Int} {nc pd pd' : Nat} {d : Nat → Nat} {e q : Nat} (hq : q < nc) (h : zi_node op ar pl pa nc pd d q) (hop : op' q = op q) (har : ar' q = ar q) (hp : ∀ i, i < pd → (pl i = 29 ∨ pl i = 30) → pa i = q → ∃ i', i' < pd' ∧ (pl' i' = 29 ∨ pl' i' = 30) ∧ pa' i' = q) : zi_node op' ar' pl' pa' (nc + 1) pd' (fun z => if z = nc + 1 then e else d z) q := by
  obtain ⟨h0, h⟩ := h
  have e1 : (if q + 1 = nc + 1 then e else d (q + 1)) = d (q + 1) := if_neg (by omega)
  have e2 : (if q = nc + 1 then e else d q) = d q := if_neg (by omega)
  unfold zi_node
  dsimp only
  rw [hop, e1, e2]
  refine ⟨h0, ?_⟩
  rcases h with h | h | h | ⟨h1, h2, h3, h4⟩
  · exact Or.inl h
  · exact Or.inr (Or.inl h)
  · exact Or.inr (Or.inr (Or.inl h))
  · exact Or.inr (Or.inr (Or.inr ⟨h1, h2, h3, zi_jp_mono hq h4 har hp⟩))
theorem zi_leaf {first nc pd : Nat} {op ar op' ar' pl pa : Nat → Int} (hf : first ≤ nc) (h : zi_wf first 0 nc pd op ar pl pa) (hpa : ∀ i, i < pd → (pl i = 29 ∨ pl i = 30) → pa i < nc) (ho : ∀ q, q < nc → op' q = op q) (ha : ∀ q, q < nc → ar' q = ar q) (h0 : 0 ≤ op' nc) (h12 : op' nc ≤ 12) : zi_wf first 1 (nc + 1) pd op' ar' pl pa := by
  obtain ⟨d, d1, d2, d3, d4⟩ := h
  refine ⟨fun z => if z = nc + 1 then zi_B pl pd + 1 else d z, ?_, fun q q1 q2 => ?_, ?_, fun i i1 i2 => ?_⟩
  · dsimp only
    rw [if_neg (by omega)]
    exact d1
  · by_cases hq : q = nc
    · subst hq
      refine ⟨h0, Or.inl ⟨by omega, h12, ?_⟩⟩
      dsimp only
      rw [if_pos rfl, if_neg (by omega), d3]
    · exact zi_node_app (by omega) (d2 q q1 (by omega)) (ho q (by omega)) (ha q (by omega)) (fun i i1 i2 i3 => ⟨i, i1, i2, i3⟩)
  · dsimp only
    rw [if_pos rfl]
  · have := hpa i i1 i2
    dsimp only
    rw [if_neg (by omega)]
    exact d4 i i1 i2
/-- one that takes two, or "not", is written out -/
theorem zi_emit {first nc pd : Nat} {op ar op' ar' pl pa : Nat → Int} (hf : first ≤ nc) (h : zi_wf first 1 nc (pd + 1) op ar pl pa) (hpa : ∀ i, i < pd → (pl i = 29 ∨ pl i = 30) → pa i < nc) (ho : ∀ q, q < nc → op' q = op q) (ha : ∀ q, q < nc → ar' q = ar q) (h0 : op' nc = pl pd) (h1 : 20 ≤ pl pd) (h2 : pl pd ≤ 28) : zi_wf first 1 (nc + 1) pd op' ar' pl pa := by
  obtain ⟨d, d1, d2, d3, d4⟩ := h
  have d3 : d nc = zi_B pl pd + (if 20 ≤ pl pd ∧ pl pd ≤ 27 then 1 else 0) + 1 := d3
  refine ⟨fun z => if z = nc + 1 then zi_B pl pd + 1 else d z, ?_, fun q q1 q2 => ?_, ?_, fun i i1 i2 => ?_⟩
  · dsimp only
    rw [if_neg (by omega)]
    exact d1
  · by_cases hq : q = nc
    · subst hq
      unfold zi_node
      dsimp only
      rw [if_pos rfl, if_neg (by omega), h0, d3]
      refine ⟨by omega, ?_⟩
      by_cases h28 : pl pd = 28
      · refine Or.inr (Or.inr (Or.inl ⟨h28, by omega, ?_⟩))
        rw [if_neg (by omega)]
      · refine Or.inr (Or.inl ⟨h1, by omega, ?_⟩)
        rw [if_pos ⟨h1, by omega⟩]
        omega
    · exact zi_node_app (by omega) (d2 q q1 (by omega)) (ho q (by omega)) (ha q (by omega)) (fun i i1 i2 i3 => by
        by_cases hi : i = pd
        · subst hi
          omega
        · exact ⟨i, by omega, i2, i3⟩)
  · dsimp only
    rw [if_pos rfl]
  · have := hpa i i1 i2
    dsimp only
    rw [if_neg (by omega)]
    exact d4 i (by omega) i2
/-- "and", "or" -/
theorem zi_and {first nc pd : Nat} {op ar op' ar' pl pa pl' pa' : Nat → Int} (hf : first ≤ nc) (h : zi_wf first 1 nc pd op ar pl pa) (hpa : ∀ i, i < pd → (pl i = 29 ∨ pl i = 30) → pa i < nc) (ho : ∀ q, q < nc → op' q = op q) (ha : ∀ q, q < nc → ar' q = ar q) (hl : ∀ i, i < pd → pl' i = pl i) (hl2 : ∀ i, i < pd → pa' i = pa i) (h0 : op' nc = 29 ∨ op' nc = 30) (h1 : pl' pd = 29 ∨ pl' pd = 30) (h2 : pa' pd = nc) : zi_wf first 0 (nc + 1) (pd + 1) op' ar' pl' pa' := by
  obtain ⟨d, d1, d2, d3, d4⟩ := h
  have hB : zi_B pl' pd = zi_B pl pd := zi_B_eq hl
  refine ⟨fun z => if z = nc + 1 then zi_B pl pd else d z, ?_, fun q q1 q2 => ?_, ?_, fun i i1 i2 => ?_⟩
  · dsimp only
    rw [if_neg (by omega)]
    exact d1
  · by_cases hq : q = nc
    · subst hq
      unfold zi_node
      dsimp only
      rw [if_pos rfl, if_neg (by omega), d3]
      exact ⟨by omega, Or.inr (Or.inr (Or.inr ⟨by omega, by omega, by omega, Or.inr ⟨pd, by omega, h1, h2⟩⟩))⟩
    · exact zi_node_app (by omega) (d2 q q1 (by omega)) (ho q (by omega)) (ha q (by omega)) (fun i i1 i2 i3 => ⟨i, by omega, by rw [hl i i1]; exact i2, by rw [hl2 i i1]; exact i3⟩)
  · dsimp only
    rw [if_pos rfl]
    show _ = zi_B pl' pd + (if 20 ≤ pl' pd ∧ pl' pd ≤ 27 then 1 else 0) + 0
    rw [hB, if_neg (by omega)]; rfl
  · dsimp only
    by_cases hi : i = pd
    · subst hi
      rw [h2, Int.toNat_natCast, if_neg (by omega), d3, hB]
    · have i3 : pl i = 29 ∨ pl i = 30 := by rw [← hl i (by omega)]; exact i2
      have := hpa i (by omega) i3
      rw [hl2 i (by omega), if_neg (by omega), d4 i (by omega) i3, zi_B_eq (n := i) (fun j hj => hl j (by omega))]
/-- .. is told where it leads -/
theorem zi_patch {first nc pd : Nat} {op ar ar' pl pa : Nat → Int} (h : zi_wf first 1 nc (pd + 1) op ar pl pa) (h1 : pl pd = 29 ∨ pl pd = 30) {q0 : Nat} (h2 : pa pd = q0) (hq : q0 < nc) (ha : ∀ q, q ≠ q0 → ar' q = ar q) (ha2 : ar' q0 = nc) : zi_wf first 1 nc pd op ar' pl pa := by
  obtain ⟨d, d1, d2, d3, d4⟩ := h
  have d3 : d nc = zi_B pl pd + (if 20 ≤ pl pd ∧ pl pd ≤ 27 then 1 else 0) + 1 := d3
  rw [if_neg (by omega), Nat.add_zero] at d3
  have d5 := d4 pd (by omega) h1
  rw [h2, Int.toNat_natCast] at d5
  refine ⟨d, d1, fun q q1 q2 => ?_, d3, fun i i1 i2 => d4 i (by omega) i2⟩
  obtain ⟨n0, n1⟩ := d2 q q1 q2
  refine ⟨n0, ?_⟩
  rcases n1 with h | h | h | ⟨e1, e2, e3, e4⟩
  · exact Or.inl h
  · exact Or.inr (Or.inl h)
  · exact Or.inr (Or.inr (Or.inl h))
  · refine Or.inr (Or.inr (Or.inr ⟨e1, e2, e3, ?_⟩))
    by_cases hq0 : q = q0
    · subst hq0
      refine Or.inl ?_
      rw [ha2]
      exact ⟨by omega, by omega, by rw [Int.toNat_natCast]; omega⟩
    · rcases e4 with ⟨g1, g2, g3⟩ | ⟨i, g1, g2, g3⟩
      · refine Or.inl ?_
        rw [ha q hq0]
        exact ⟨g1, g2, g3⟩
      · refine Or.inr ⟨i, ?_, g2, g3⟩
        by_cases hi : i = pd
        · subst hi
          omega
        · omega
theorem zi_push {first x x' nc pd : Nat} {op ar pl pa pl' pa' : Nat → Int} (h : zi_wf first x nc pd op ar pl pa) (hl : ∀ i, i < pd → pl' i = pl i) (hl2 : ∀ i, i < pd → pa' i = pa i) (h1 : pl' pd ≠ 29 ∧ pl' pd ≠ 30) (hx : x' + (if 20 ≤ pl' pd ∧ pl' pd ≤ 27 then 1 else 0) = x) : zi_wf first x' nc (pd + 1) op ar pl' pa' := by
  obtain ⟨d, d1, d2, d3, d4⟩ := h
  have hB : zi_B pl' pd = zi_B pl pd := zi_B_eq hl
  refine ⟨d, d1, fun q q1 q2 => ?_, ?_, fun i i1 i2 => ?_⟩
  · obtain ⟨n0, n1⟩ := d2 q q1 q2
    refine ⟨n0, ?_⟩
    rcases n1 with h | h | h | ⟨e1, e2, e3, e4⟩
    · exact Or.inl h
    · exact Or.inr (Or.inl h)
    · exact Or.inr (Or.inr (Or.inl h))
    · refine Or.inr (Or.inr (Or.inr ⟨e1, e2, e3, ?_⟩))
      rcases e4 with h | ⟨i, i1, i2, i3⟩
      · exact Or.inl h
      · exact Or.inr ⟨i, by omega, by rw [hl i i1]; exact i2, by rw [hl2 i i1]; exact i3⟩
  · show _ = zi_B pl' pd + (if 20 ≤ pl' pd ∧ pl' pd ≤ 27 then 1 else 0) + x'
    rw [d3, hB]
    omega
  · by_cases hi : i = pd
    · subst hi
      omega
    · have i3 : pl i = 29 ∨ pl i = 30 := by rw [← hl i (by omega)]; exact i2
      rw [hl2 i (by omega), d4 i (by omega) i3, zi_B_eq (n := i) (fun j hj => hl j (by omega))]
theorem zi_popb {first x nc pd : Nat} {op ar pl pa : Nat → Int} (h : zi_wf first x nc (pd + 1) op ar pl pa) (h1 : 31 ≤ pl pd) : zi_wf first x nc pd op ar pl pa := by
  obtain ⟨d, d1, d2, d3, d4⟩ := h
  have d3 : d nc = zi_B pl pd + (if 20 ≤ pl pd ∧ pl pd ≤ 27 then 1 else 0) + x := d3
  rw [if_neg (by omega), Nat.add_zero] at d3
  refine ⟨d, d1, fun q q1 q2 => ?_, d3, fun i i1 i2 => d4 i (by omega) i2⟩
  obtain ⟨n0, n1⟩ := d2 q q1 q2
  refine ⟨n0, ?_⟩
  rcases n1 with h | h | h | ⟨e1, e2, e3, e4⟩
  · exact Or.inl h
  · exact Or.inr (Or.inl h)
  · exact Or.inr (Or.inr (Or.inl h))
  · refine Or.inr (Or.inr (Or.inr ⟨e1, e2, e3, ?_⟩))
    rcases e4 with h | ⟨i, i1, i2, i3⟩
    · exact Or.inl h
    · by_cases hi : i = pd
      · subst hi
        omega
      · exact Or.inr ⟨i, by omega, i2, i3⟩
/-- what a leaf's number is doesn't matter -/
theorem zi_arg {first x nc pd : Nat} {op ar ar' pl pa : Nat → Int} (h : zi_wf first x nc pd op ar pl pa) {q0 : Nat} (h1 : op q0 < 20) (ha : ∀ q, q ≠ q0 → ar' q = ar q) : zi_wf first x nc pd op ar' pl pa := by
  obtain ⟨d, d1, d2, d3, d4⟩ := h
  refine ⟨d, d1, fun q q1 q2 => ?_, d3, d4⟩
  obtain ⟨n0, n1⟩ := d2 q q1 q2
  refine ⟨n0, ?_⟩
  rcases n1 with h | h | h | ⟨e1, e2, e3, e4⟩
  · exact Or.inl h
  · exact Or.inr (Or.inl h)
  · exact Or.inr (Or.inr (Or.inl h))
  · refine Or.inr (Or.inr (Or.inr ⟨e1, e2, e3, ?_⟩))
    rcases e4 with h | h
    · refine Or.inl ?_
      rw [ha q (fun e => by subst e; omega)]
      exact h
    · exact Or.inr h
theorem zi_end {first nc : Nat} {op ar pl pa : Nat → Int} {x : Nat} (h : zi_wf first x nc 0 op ar pl pa) : zk_cr op ar first nc := by
  obtain ⟨d, d1, d2, d3, d4⟩ := h
  refine ⟨d, d1, fun q q1 q2 => ?_⟩
  obtain ⟨n0, n1⟩ := d2 q q1 q2
  refine ⟨n0, ?_⟩
  rcases n1 with h | h | h | ⟨e1, e2, e3, e4⟩
  · exact Or.inl h
  · exact Or.inr (Or.inl h)
  · exact Or.inr (Or.inr (Or.inl h))
  · refine Or.inr (Or.inr (Or.inr ⟨e1, e2, e3, ?_⟩))
    rcases e4 with h | ⟨i, i1, -⟩
    · exact h
    · omega
theorem zi_begin {first : Nat} {op ar pl pa : Nat → Int} : zi_wf first 0 first 0 op ar pl pa := ⟨fun _ => 0, rfl, fun q q1 q2 => absurd q1 (by omega), rfl, fun i i1 => absurd i1 (Nat.not_lt_zero i)⟩
theorem zi_wf_congr {first x nc pd : Nat} {op ar pl pa op' ar' pl' pa' : Nat → Int} (h : zi_wf first x nc pd op ar pl pa) (h1 : ∀ q, q < nc → op' q = op q) (h2 : ∀ q, q < nc → ar' q = ar q) (h3 : ∀ i, i < pd → pl' i = pl i) (h4 : ∀ i, i < pd → pa' i = pa i) : zi_wf first x nc pd op' ar' pl' pa' := by
  obtain ⟨d, d1, d2, d3, d4⟩ := h
  refine ⟨d, d1, fun q q1 q2 => ?_, by rw [d3, zi_B_eq h3], fun i i1 i2 => ?_⟩
  · obtain ⟨n0, n1⟩ := d2 q q1 q2
    unfold zi_node
    rw [h1 q q2]
    refine ⟨n0, ?_⟩
    rcases n1 with h | h | h | ⟨e1, e2, e3, e4⟩
    · exact Or.inl h
    · exact Or.inr (Or.inl h)
    · exact Or.inr (Or.inr (Or.inl h))
    · refine Or.inr (Or.inr (Or.inr ⟨e1, e2, e3, ?_⟩))
      unfold zi_jp
      rw [h2 q q2]
      rcases e4 with h | ⟨i, i1, i2, i3⟩
      · exact Or.inl h
      · exact Or.inr ⟨i, i1, by rw [h3 i i1]; exact i2, by rw [h4 i i1]; exact i3⟩
  · have i3 : pl i = 29 ∨ pl i = 30 := by rw [← h3 i i1]; exact i2
    rw [h4 i i1, d4 i i1 i3, zi_B_eq (n := i) (fun j hj => h3 j (by omega))]
