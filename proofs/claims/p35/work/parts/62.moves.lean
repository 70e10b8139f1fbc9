/-! part 62: the parser: its moves -/
theorem zs_sp_settle {first sq nc nc' pd pd' : Nat} {bad fr : Int} {op ar op' ar' pl pa : Nat → Int} (h : zs_sp first 1 sq bad fr nc pd op ar pl pa) (hs : zs_st nc nc' pd pd' op ar op' ar' pl pa) (hp : pd' ≤ pd) : zs_sp first 1 sq bad fr nc' pd' op' ar' pl pa ∧ ∀ q, q < first → op' q = op q ∧ ar' q = ar q := by
  obtain ⟨h1, h2⟩ := h
  obtain ⟨y1, y2, y3⟩ := hs first fr h1
  refine ⟨⟨y1, fun z => ?_⟩, y2⟩
  obtain ⟨z1, z2, z3⟩ := h2 z
  exact ⟨zi_sq_le z1 hp, fun w => zi_ns_le (z2 w) hp, y3 z3⟩
theorem zs_sp_push {first sq nc pd : Nat} {bad fr fr' : Int} {op ar pl pa pl' pa' : Nat → Int} (h : zs_sp first 1 sq bad fr nc pd op ar pl pa) (hf : fr + 1 ≤ fr') (hl : ∀ i, i < pd → pl' i = pl i) (hl2 : ∀ i, i < pd → pa' i = pa i) (h1 : 20 ≤ pl' pd) (h2 : pl' pd ≤ 27) (h3 : pl' pd ≤ 24 ∨ sq = 0) : zs_sp first 0 1 bad fr' nc (pd + 1) op ar pl' pa' := by
  obtain ⟨a1, a2⟩ := h
  refine ⟨zi_wk_push a1 hf hl hl2 h1 (by omega) (by omega), fun z => ?_⟩
  obtain ⟨z1, z2, z3⟩ := a2 z
  refine ⟨?_, fun w => absurd w (by decide), zi_push z3 hl hl2 (by omega) (by rw [if_pos ⟨h1, h2⟩])⟩
  rcases h3 with h3 | h3
  · exact zi_sq_push z1 hl (Or.inl ⟨h1, h3⟩)
  · exact zi_ns_sq (z2 h3) hl
theorem zs_sp_ao {first nc pd : Nat} {bad fr fr' : Int} {op ar op' ar' pl pa pl' pa' : Nat → Int} (h : zs_sp first 1 0 bad fr nc pd op ar pl pa) (hf : fr + 1 ≤ fr') (hl : ∀ i, i < pd → pl' i = pl i) (hl2 : ∀ i, i < pd → pa' i = pa i) (h1 : pl' pd = 29 ∨ pl' pd = 30) (h2 : pa' pd = nc) (ho : ∀ q, q < nc → op' q = op q) (ha : ∀ q, q < nc → ar' q = ar q) (h0 : op' nc = 29 ∨ op' nc = 30) : zs_sp first 0 0 bad fr' (nc + 1) (pd + 1) op' ar' pl' pa' := by
  obtain ⟨a1, a2⟩ := h
  refine ⟨zi_wk_ao a1 hf hl hl2 h1 h2, fun z => ?_⟩
  obtain ⟨z1, z2, z3⟩ := a2 z
  exact ⟨zi_ns_sq (z2 rfl) hl, fun _ => zi_ns_push (z2 rfl) hl (by omega), zi_and a1.1 z3 (fun i hi hz => ((a1.2.2.2 i hi).2.2 hz).2) ho ha hl hl2 h0 h1 h2⟩
theorem zs_sp_popb {first sq nc pd : Nat} {bad fr : Int} {op ar pl pa : Nat → Int} (h : zs_sp first 1 sq bad fr nc (pd + 1) op ar pl pa) (h1 : 31 ≤ pl pd) : zs_sp first 1 sq bad fr nc pd op ar pl pa :=
  ⟨zi_wk_popb h.1, fun z => ⟨zi_sq_le (h.2 z).1 (by omega), fun w => zi_ns_le ((h.2 z).2.1 w) (by omega), zi_popb (h.2 z).2.2 h1⟩⟩
theorem zs_sp_le {first x sq nc pd : Nat} {bad bad' fr fr' : Int} {op ar pl pa : Nat → Int} (h : zs_sp first x sq bad fr nc pd op ar pl pa) (hf : fr ≤ fr') (hb : bad' = 0 → bad = 0) : zs_sp first x sq bad' fr' nc pd op ar pl pa := ⟨zi_wk_le h.1 hf, fun z => h.2 (hb z)⟩
theorem zs_sp_congr {first x sq nc pd : Nat} {bad fr : Int} {op ar pl pa op' ar' pl' pa' : Nat → Int} (h : zs_sp first x sq bad fr nc pd op ar pl pa) (h1 : ∀ q, op' q = op q) (h2 : ∀ q, ar' q = ar q) (h3 : ∀ i, pl' i = pl i) (h4 : ∀ i, pa' i = pa i) : zs_sp first x sq bad fr nc pd op' ar' pl' pa' := by
  rw [show op' = op from funext h1, show ar' = ar from funext h2, show pl' = pl from funext h3, show pa' = pa from funext h4]
  exact h
/-- above the innermost bracket, a '[', everything is put away: it stands on top -/
theorem zi_top32 {pd pd' i : Nat} {pl : Nat → Int} (hsq : zi_sq pd pl) (hi : i < pd) (h32 : pl i = 32) (hb : ∀ j, i < j → j < pd → pl j < 31) (hp : pd' ≤ pd) (hk : i < pd') (ht : pd' = 0 ∨ zbinds (pl (pd' - 1)) < 5) : pd' = i + 1 := by
  by_cases h : pd' = i + 1
  · exact h
  · exfalso
    rcases ht with ht | ht
    · omega
    · have h1 := hb (pd' - 1) (by omega) (by omega)
      rcases hsq i hi h32 (pd' - 1) (by omega) (by omega) with h2 | h2
      · unfold zbinds at ht
        split at ht
        · omega
        · split at ht
          · omega
          · split at ht
            · omega
            · split at ht
              · omega
              · split at ht
                · omega
                · split at ht <;> omega
      · omega
theorem zi_topb {x : Int} (h : zbinds x < 1) : 31 ≤ x := by
  unfold zbinds at h
  by_cases h1 : 31 ≤ x
  · exact h1
  · rw [if_neg h1] at h
    exfalso
    repeat' split at h
    all_goals omega
theorem zbinds_b {x : Int} (h : 31 ≤ x) : zbinds x = 0 := by
  unfold zbinds
  rw [if_pos h]
theorem zbinds_a {x : Int} (h : 20 ≤ x) (h2 : x ≤ 24) : 5 ≤ zbinds x := by
  unfold zbinds
  repeat' split
  all_goals omega
theorem zs_mk {a first x sq nc pd : Nat} {G' : Nat → Nat → Int} {bad fr : Int} {op ar pl pa : Nat → Int} (hsp : zs_sp first x sq bad fr nc pd op ar pl pa) (htk : zs_tk a G') (h23 : G' a 23 = nc) (h29 : G' a 29 = pd) (h19 : G' a 19 = bad) (h14 : G' a 14 = fr) (v24 : ∀ q, zv G' a 24 q = op q) (v25 : ∀ q, zv G' a 25 q = ar q) (v27 : ∀ q, zv G' a 27 q = pl q) (v28 : ∀ q, zv G' a 28 q = pa q) : zs first x sq a G' := by
  refine ⟨htk, nc, pd, h23, h29, ?_⟩
  rw [h19, h14]
  exact zs_sp_congr hsp v24 v25 v27 v28
