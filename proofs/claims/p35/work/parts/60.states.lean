/-! part 60: the parser: its states -/
theorem zi_wk_push {first nc pd : Nat} {fr fr' : Int} {pl pa pl' pa' : Nat → Int} (h : zi_wk first nc pd fr pl pa) (hf : fr + 1 ≤ fr') (hl : ∀ i, i < pd → pl' i = pl i) (hl2 : ∀ i, i < pd → pa' i = pa i) (h1 : 20 ≤ pl' pd) (h2 : pl' pd ≤ 32) (h3 : ¬ (pl' pd = 29 ∨ pl' pd = 30)) : zi_wk first nc (pd + 1) fr' pl' pa' := by
  obtain ⟨a1, a2, a3, a4⟩ := h
  have e : zi_E pl' (pd + 1) = zi_E pl' pd + (if pl' pd = 29 ∨ pl' pd = 30 then 0 else 1) := rfl
  rw [if_neg h3, zi_E_eq hl] at e
  refine ⟨a1, by omega, by omega, fun i hi => ?_⟩
  by_cases hip : i = pd
  · subst hip
    exact ⟨h1, h2, fun z => absurd z h3⟩
  · rw [hl i (by omega), hl2 i (by omega)]
    exact a4 i (by omega)
theorem zi_wk_ao {first nc pd : Nat} {fr fr' : Int} {pl pa pl' pa' : Nat → Int} (h : zi_wk first nc pd fr pl pa) (hf : fr + 1 ≤ fr') (hl : ∀ i, i < pd → pl' i = pl i) (hl2 : ∀ i, i < pd → pa' i = pa i) (h3 : pl' pd = 29 ∨ pl' pd = 30) (h4 : pa' pd = nc) : zi_wk first (nc + 1) (pd + 1) fr' pl' pa' := by
  obtain ⟨a1, a2, a3, a4⟩ := h
  have e : zi_E pl' (pd + 1) = zi_E pl' pd + (if pl' pd = 29 ∨ pl' pd = 30 then 0 else 1) := rfl
  rw [if_pos h3, zi_E_eq hl] at e
  refine ⟨by omega, by omega, by omega, fun i hi => ?_⟩
  by_cases hip : i = pd
  · subst hip
    exact ⟨by omega, by omega, fun _ => ⟨by omega, by omega⟩⟩
  · rw [hl i (by omega), hl2 i (by omega)]
    obtain ⟨b1, b2, b3⟩ := a4 i (by omega)
    exact ⟨b1, b2, fun z => ⟨(b3 z).1, by have := (b3 z).2; omega⟩⟩
theorem zi_wk_leaf {first nc pd : Nat} {fr fr' : Int} {pl pa : Nat → Int} (h : zi_wk first nc pd fr pl pa) (hf : fr + 1 ≤ fr') : zi_wk first (nc + 1) pd fr' pl pa := by
  obtain ⟨a1, a2, a3, a4⟩ := h
  refine ⟨by omega, by omega, by omega, fun i hi => ?_⟩
  obtain ⟨b1, b2, b3⟩ := a4 i (by omega)
  exact ⟨b1, b2, fun z => ⟨(b3 z).1, by have := (b3 z).2; omega⟩⟩
theorem zi_wk_le {first nc pd : Nat} {fr fr' : Int} {pl pa : Nat → Int} (h : zi_wk first nc pd fr pl pa) (hf : fr ≤ fr') : zi_wk first nc pd fr' pl pa := ⟨h.1, by have := h.2.1; omega, by have := h.2.2.1; omega, h.2.2.2⟩
theorem zi_wk_congr {first nc pd : Nat} {fr : Int} {pl pa pl' pa' : Nat → Int} (h : zi_wk first nc pd fr pl pa) (hl : ∀ i, i < pd → pl' i = pl i) (hl2 : ∀ i, i < pd → pa' i = pa i) : zi_wk first nc pd fr pl' pa' := by
  obtain ⟨a1, a2, a3, a4⟩ := h
  refine ⟨a1, by rw [zi_E_eq hl]; exact a2, a3, fun i hi => ?_⟩
  rw [hl i hi, hl2 i hi]
  exact a4 i hi
theorem zi_wk_popb {first nc pd : Nat} {fr : Int} {pl pa : Nat → Int} (h : zi_wk first nc (pd + 1) fr pl pa) : zi_wk first nc pd fr pl pa := by
  obtain ⟨a1, a2, a3, a4⟩ := h
  have e : zi_E pl (pd + 1) = zi_E pl pd + (if pl pd = 29 ∨ pl pd = 30 then 0 else 1) := rfl
  exact ⟨a1, by omega, by omega, fun i hi => a4 i (by omega)⟩
theorem zi_sq_push {pd : Nat} {pl pl' : Nat → Int} (h : zi_sq pd pl) (hl : ∀ i, i < pd → pl' i = pl i) (h1 : (20 ≤ pl' pd ∧ pl' pd ≤ 24) ∨ pl' pd = 32) : zi_sq (pd + 1) pl' := by
  intro i hi h32 j hij hj
  by_cases hjp : j = pd
  · subst hjp
    exact h1
  · rw [hl j (by omega)]
    rw [hl i (by omega)] at h32
    exact h i (by omega) h32 j hij (by omega)
theorem zi_ns_sq {pd : Nat} {pl pl' : Nat → Int} (h : zi_ns pd pl) (hl : ∀ i, i < pd → pl' i = pl i) : zi_sq (pd + 1) pl' := by
  intro i hi h32 j hij hj
  rw [hl i (by omega)] at h32
  exact absurd h32 (h i (by omega))
theorem zi_ns_push {pd : Nat} {pl pl' : Nat → Int} (h : zi_ns pd pl) (hl : ∀ i, i < pd → pl' i = pl i) (h1 : pl' pd ≠ 32) : zi_ns (pd + 1) pl' := by
  intro i hi
  by_cases hip : i = pd
  · subst hip
    exact h1
  · rw [hl i (by omega)]
    exact h i (by omega)
theorem zi_sq_le {pd pd' : Nat} {pl : Nat → Int} (h : zi_sq pd pl) (hp : pd' ≤ pd) : zi_sq pd' pl := fun i hi h32 j hij hj => h i (by omega) h32 j hij (by omega)
theorem zi_ns_le {pd pd' : Nat} {pl : Nat → Int} (h : zi_ns pd pl) (hp : pd' ≤ pd) : zi_ns pd' pl := fun i hi => h i (by omega)
theorem zi_ns_of {pd : Nat} {pl : Nat → Int} (h : zi_sq pd pl) (hr : (∀ i, i < pd → pl i < 31) ∨ ∃ i, i < pd ∧ pl i = 31 ∧ ∀ j, i < j → j < pd → pl j < 31) : zi_ns pd pl := by
  intro k hk h32
  rcases hr with hr | ⟨i, h1, h2, h3⟩
  · have := hr k hk
    omega
  · rcases Nat.lt_trichotomy k i with hki | rfl | hki
    · rcases h k hk h32 i hki h1 with h4 | h4 <;> omega
    · omega
    · have := h3 k hki hk
      omega
/-- how far an expression is read: x is 1 behind a part, 0 where one is wanted; sq is 0 where no '[' is open -/
def zs_sp (first x sq : Nat) (bad fr : Int) (nc pd : Nat) (op ar pl pa : Nat → Int) : Prop := zi_wk first nc pd fr pl pa ∧ (bad = 0 → zi_sq pd pl ∧ (sq = 0 → zi_ns pd pl) ∧ zi_wf first x nc pd op ar pl pa)
def zs (first x sq a : Nat) (G : Nat → Nat → Int) : Prop := zs_tk a G ∧ ∃ nc pd : Nat, G a 23 = nc ∧ G a 29 = pd ∧ zs_sp first x sq (G a 19) (G a 14) nc pd (zv G a 24) (zv G a 25) (zv G a 27) (zv G a 28)
def zs_go (a first x sq : Nat) (G G' : Nat → Nat → Int) : Prop := zs first x sq a G' ∧ (∀ q, q < first → zv G' a 24 q = zv G a 24 q ∧ zv G' a 25 q = zv G a 25 q) ∧ G a 14 ≤ G' a 14 ∧ (G' a 19 = 0 → G a 19 = 0 ∧ G a 14 < G' a 14)
def zs_obr (a : Nat) (op : Int) (G G' : Nat → Nat → Int) : Prop := (G' a 19 = 1 ∧ G' a 14 = G a 14 ∧ G' a 29 = G a 29 ∧ (∀ j : Nat, zv G' a 27 j = zv G a 27 j) ∧ ∀ j : Nat, zv G' a 28 j = zv G a 28 j) ∨ (G' a 19 = 0 ∧ G a 19 = 0 ∧ G a 15 ≤ G' a 14 ∧ G' a 29 = G a 29 + 1 ∧ (∀ j : Nat, zv G' a 27 j = if j = (G a 29).toNat then op else zv G a 27 j) ∧ ∀ j : Nat, zv G' a 28 j = if j = (G a 29).toNat then 0 else zv G a 28 j)
theorem zs_ob {a first sq sq' : Nat} {op : Int} {G G' : Nat → Nat → Int} (h : zs first 0 sq a G) (hop : (op = 32 ∧ sq' = 1) ∨ (op = 31 ∧ sq = 0)) (hs : G a 16 ≠ 0) (h23 : G' a 23 = G a 23) (h24 : ∀ j, zv G' a 24 j = zv G a 24 j) (h25 : ∀ j, zv G' a 25 j = zv G a 25 j) (htk : zs_tk a G') (hr : zs_obr a op G G') : zs_go a first 0 sq' G G' := by
  obtain ⟨h1, nc, pd, h2, h3, h4, h5⟩ := h
  have hlt := h1.2.2.2.2.2 hs
  rcases hr with ⟨r1, r2, r3, r4, r5⟩ | ⟨r1, r2, r3, r4, r5, r6⟩
  · refine ⟨⟨htk, nc, pd, h23.trans h2, r3.trans h3, ?_, fun z => by omega⟩, fun q _ => ⟨h24 q, h25 q⟩, by omega, fun z => by omega⟩
    rw [r2]
    exact zi_wk_congr h4 (fun i _ => r4 i) (fun i _ => r5 i)
  · obtain ⟨h6, h7, h8⟩ := h5 r2
    rw [h3, Int.toNat_natCast] at r5 r6
    have l1 : ∀ i, i < pd → zv G' a 27 i = zv G a 27 i := fun i hi => by rw [r5, if_neg (by omega)]
    have l2 : ∀ i, i < pd → zv G' a 28 i = zv G a 28 i := fun i hi => by rw [r6, if_neg (by omega)]
    have l3 : zv G' a 27 pd = op := by rw [r5, if_pos rfl]
    refine ⟨⟨htk, nc, pd + 1, h23.trans h2, by rw [r4, h3]; rfl, zi_wk_push h4 (by omega) l1 l2 (by omega) (by omega) (by omega), fun _ => ⟨?_, fun z => ?_, ?_⟩⟩, fun q _ => ⟨h24 q, h25 q⟩, by omega, fun z => ⟨r2, by omega⟩⟩
    · rcases hop with ⟨o1, o2⟩ | ⟨o1, o2⟩
      · exact zi_sq_push h6 l1 (by omega)
      · exact zi_ns_sq (h7 o2) l1
    · rcases hop with ⟨o1, o2⟩ | ⟨o1, o2⟩
      · omega
      · exact zi_ns_push (h7 o2) l1 (by omega)
    · exact zi_wf_congr (zi_push (pl' := zv G' a 27) (pa' := zv G' a 28) h8 l1 l2 (by omega) (by rw [if_neg (by omega)])) (fun q _ => h24 q) (fun q _ => h25 q) (fun i _ => rfl) (fun i _ => rfl)
def zs_lfr (a : Nat) (is op ar : Int) (G G' : Nat → Nat → Int) : Prop := (G' a 19 = 1 ∧ G' a 14 = G a 14 ∧ G' a 23 = G a 23 ∧ (∀ j : Nat, zv G' a 24 j = zv G a 24 j) ∧ ∀ j : Nat, zv G' a 25 j = zv G a 25 j) ∨ (G' a 19 = 0 ∧ G a 19 = 0 ∧ is = 1 ∧ G a 15 ≤ G' a 14 ∧ G' a 23 = G a 23 + 1 ∧ (∀ j : Nat, zv G' a 24 j = if j = (G a 23).toNat then op else zv G a 24 j) ∧ ∀ j : Nat, zv G' a 25 j = if j = (G a 23).toNat then ar else zv G a 25 j)
theorem zs_lf {a first sq : Nat} {is op ar : Int} {G G' : Nat → Nat → Int} (h : zs first 0 sq a G) (h0 : 0 ≤ op) (h12 : op ≤ 12) (hs : is = 1 → G a 16 ≠ 0) (h29 : G' a 29 = G a 29) (h27 : ∀ j, zv G' a 27 j = zv G a 27 j) (h28 : ∀ j, zv G' a 28 j = zv G a 28 j) (htk : zs_tk a G') (hr : zs_lfr a is op ar G G') : zs_go a first 1 1 G G' := by
  obtain ⟨h1, nc, pd, h2, h3, h4, h5⟩ := h
  rcases hr with ⟨r1, r2, r3, r4, r5⟩ | ⟨r1, r2, r0, r3, r4, r5, r6⟩
  · refine ⟨⟨htk, nc, pd, r3.trans h2, h29.trans h3, ?_, fun z => by omega⟩, fun q _ => ⟨r4 q, r5 q⟩, by omega, fun z => by omega⟩
    rw [r2]
    exact zi_wk_congr h4 (fun i _ => h27 i) (fun i _ => h28 i)
  · have hlt := h1.2.2.2.2.2 (hs r0)
    obtain ⟨h6, h7, h8⟩ := h5 r2
    have hf := h4.1
    rw [h2, Int.toNat_natCast] at r5 r6
    have e27 : zv G' a 27 = zv G a 27 := funext h27
    have e28 : zv G' a 28 = zv G a 28 := funext h28
    refine ⟨⟨htk, nc + 1, pd, by rw [r4, h2]; rfl, h29.trans h3, ?_, fun _ => ⟨?_, fun z => absurd z (by decide), ?_⟩⟩, fun q hq => ⟨by rw [r5, if_neg (by omega)], by rw [r6, if_neg (by omega)]⟩, by omega, fun z => ⟨r2, by omega⟩⟩
    · rw [e27, e28]
      exact zi_wk_leaf h4 (by omega)
    · rw [e27]
      exact h6
    · rw [e27, e28]
      exact zi_leaf hf h8 (fun i hi hz => ((h4.2.2.2 i hi).2.2 hz).2) (fun q hq => by rw [r5, if_neg (by omega)]) (fun q hq => by rw [r6, if_neg (by omega)]) (by rw [r5, if_pos rfl]; exact h0) (by rw [r5, if_pos rfl]; exact h12)
/-- the text is read on, or not -/
theorem zs_mu_go {a first x sq : Nat} {is : Int} {G0 G G' : Nat → Nat → Int} (h : zs_go a first x sq G0 G) (htk : zs_tk a G') (hm : zs_mu a is G G') (h23 : G' a 23 = G a 23) (h29 : G' a 29 = G a 29) (h24 : ∀ j, zv G' a 24 j = zv G a 24 j) (h25 : ∀ j, zv G' a 25 j = zv G a 25 j) (h27 : ∀ j, zv G' a 27 j = zv G a 27 j) (h28 : ∀ j, zv G' a 28 j = zv G a 28 j) : zs_go a first x sq G0 G' := by
  obtain ⟨⟨h1, nc, pd, h2, h3, h4, h5⟩, h6, h7, h8⟩ := h
  have hle : G a 14 ≤ G' a 14 := by
    have := h1.2.1
    rcases hm with hm | hm <;> omega
  refine ⟨⟨htk, nc, pd, h23.trans h2, h29.trans h3, zi_wk_congr (zi_wk_le h4 hle) (fun i _ => h27 i) (fun i _ => h28 i), fun z => ?_⟩, fun q hq => ⟨(h24 q).trans (h6 q hq).1, (h25 q).trans (h6 q hq).2⟩, by omega, fun z => ?_⟩
  · have hb : G a 19 = 0 := by rcases hm with hm | hm <;> omega
    obtain ⟨y1, y2, y3⟩ := h5 hb
    have e27 : zv G' a 27 = zv G a 27 := funext h27
    rw [e27]
    refine ⟨y1, y2, ?_⟩
    exact zi_wf_congr y3 (fun q _ => h24 q) (fun q _ => h25 q) (fun i _ => rfl) (fun i _ => h28 i)
  · have hb : G a 19 = 0 := by rcases hm with hm | hm <;> omega
    obtain ⟨y1, y2⟩ := h8 hb
    exact ⟨y1, by omega⟩
theorem zs_arg_go {a first x sq q0 : Nat} {G0 G G' : Nat → Nat → Int} (h : zs_go a first x sq G0 G) (hq : first ≤ q0) (hop : zv G a 24 q0 < 20) (hk : ∀ k, k ≠ 25 → G' a k = G a k) (h24 : ∀ j, zv G' a 24 j = zv G a 24 j) (h25 : ∀ j, j ≠ q0 → zv G' a 25 j = zv G a 25 j) (h27 : ∀ j, zv G' a 27 j = zv G a 27 j) (h28 : ∀ j, zv G' a 28 j = zv G a 28 j) : zs_go a first x sq G0 G' := by
  obtain ⟨⟨h1, nc, pd, h2, h3, h4, h5⟩, h6, h7, h8⟩ := h
  have k14 := hk 14 (by decide)
  have k19 := hk 19 (by decide)
  refine ⟨⟨zs_tk_congr h1 (hk 13 (by decide)) k14 (hk 15 (by decide)) (hk 16 (by decide)), nc, pd, (hk 23 (by decide)).trans h2, (hk 29 (by decide)).trans h3, ?_, fun z => ?_⟩, fun q hq' => ⟨(h24 q).trans (h6 q hq').1, (h25 q (by omega)).trans (h6 q hq').2⟩, by omega, fun z => ?_⟩
  · rw [k14]
    exact zi_wk_congr h4 (fun i _ => h27 i) (fun i _ => h28 i)
  · obtain ⟨y1, y2, y3⟩ := h5 (by omega)
    have e27 : zv G' a 27 = zv G a 27 := funext h27
    rw [e27]
    refine ⟨y1, y2, ?_⟩
    exact zi_wf_congr (zi_arg (ar' := zv G' a 25) y3 hop (fun q hq' => h25 q hq')) (fun q _ => h24 q) (fun q _ => rfl) (fun i _ => rfl) (fun i _ => h28 i)
  · obtain ⟨y1, y2⟩ := h8 (by omega)
    exact ⟨y1, by omega⟩
