/-! part 8c: the world at the law's entry -/
noncomputable def zl_ix : List Nat := [86, 161, 163, 88, 100, 112, 143, 141, 132, 63]
noncomputable def zl_tm (i : Nat) : Term := .string "WoundTown$Reader" (zl_ix.getD i 0)
noncomputable def zl_b : List Nat := [35, 56, 98, 152, 161, 174, 185, 198, 212, 226]
noncomputable def zl_byt : List (List Int32) := [[119, 105, 110, 100, 32, 107, 101, 121, 32, 114, 117, 110, 32, 109, 101, 110, 100], [100, 97, 121, 32, 116, 117, 114, 110, 115, 32, 108, 105, 102, 101, 32, 100, 111, 110, 101, 32, 101, 110, 100, 101, 100, 32, 108, 105, 116, 116, 108, 101, 32, 108, 101, 102, 116], [116, 117, 114, 110, 115, 32, 112, 111, 119, 101, 114, 32, 104, 111, 117, 114, 32, 112, 101, 114, 115, 111, 110, 32, 111, 105, 108, 32, 108, 105, 116, 116, 108, 101, 32, 108, 105, 102, 101, 32, 100, 97, 121, 32, 109, 111, 111, 100], [98, 121], [116, 105, 109, 101, 115], [105, 102], [110, 111, 116], [97, 110, 100], [111, 114], [114, 117, 110, 115, 32, 115, 112, 101, 101, 100, 115, 32, 119, 101, 97, 114, 115, 32, 115, 110, 97, 112, 115, 32, 98, 97, 114, 115]]
noncomputable def zl_fl : List Jvm.Cond := flatC (Jvm.Cond.and given_1 narrow_1)
theorem zl_fa0 : ∀ i, i < 10 → zl_fl[zl_b.getD i 0]? = some (.exactly (zl_tm i) "java/lang/String") ∧ zl_fl[zl_b.getD i 0 + 1]? = some (.eq (.field (zl_tm i) "java/lang/String" "coder" "B") (.int 0)) ∧ zl_fl[zl_b.getD i 0 + 2]? = some (.arrayOf (.field (zl_tm i) "java/lang/String" "value" "[B") .byte) ∧ zl_fl[zl_b.getD i 0 + 3]? = some (.eq (.length (.field (zl_tm i) "java/lang/String" "value" "[B")) (.int (Int32.ofNat (zt_tn.getD i 0)))) := by decide +kernel
theorem zl_fa1 : ∀ i, i < 10 → ∀ j, j < zt_tn.getD i 0 → zl_fl[zl_b.getD i 0 + 4 + j]? = some (.eq (.elem (.field (zl_tm i) "java/lang/String" "value" "[B") (.int (Int32.ofNat j))) (.int ((zl_byt.getD i []).getD j 0))) := by decide +kernel
theorem zl_fa2 : ∀ i, i < 10 → ∀ j, j < i → zl_fl[zl_b.getD i 0 + 4 + zt_tn.getD i 0 + j]? = some (.not (.eq (zl_tm j) (zl_tm i))) := by decide +kernel
theorem zl_fa3 : zl_fl[4]? = some (.eq (.static "java/lang/String" "COMPACT_STRINGS" "Z") (.int 1)) ∧ zl_fl[5]? = some (.isRef (.static "jdk/internal/util/Preconditions" "SIOOBE_FORMATTER" "Ljava/util/function/BiFunction;")) := by decide +kernel
theorem zl_bb : ∀ i, i < 10 → ∀ j, j < zt_tn.getD i 0 → 0 ≤ ((zl_byt.getD i []).getD j 0).toInt ∧ ((zl_byt.getD i []).getD j 0).toInt ≤ 127 := by decide +kernel
theorem zl_be : ∀ i, i < 10 → ∀ j, j < zt_tn.getD i 0 → ((zl_byt.getD i []).getD j 0).toInt = zt_by i j := by decide +kernel
theorem zl_nn : ∀ i, i < 10 → zt_tn.getD i 0 < 2 ^ 31 ∧ zt_tn[i]? = some (zt_tn.getD i 0) := by decide +kernel
noncomputable def zl_inst : List Nat := [339, 413, 153, 369, 400, 462, 322, 434, 468, 145, 302, 137, 1338]
theorem zl_ins : ∀ k, k < 13 → (match zt_cl[k]? with
  | some c => decide (lw_tbl[zl_inst.getD k 0]? = some (.instantiable c.1 c.2.2))
  | none => false) = true := by decide +kernel
/-- the law's world -/
noncomputable def zl_Z (s U : State) : Prop := s.WarmedH U.vm ∧ ∀ q, q < s.heap.size → U.heap[q]? = s.heap[q]?
noncomputable def zl_w (s : State) (D : va_G) (ad : Nat → Nat) : zk_W := (zt_types, zt_cl, D, s.heap.size, fun t a => 200 ≤ t ∧ t < 210 ∧ a = ad (t - 200), zl_Z s)
theorem zl_K {s : State} {args : Array Value} (hts : ∀ x ∈ lw_tbl, x.before args s = true) : ∃ D : va_G, va_K D zt_cl [] s := by
  have hTB : ∀ x ∈ zt_TB, x.before args s = true := fun x hx => hts x (by rw [← zl_tbl]; exact (List.mem_filter.mp hx).1)
  have h0 : ∀ k : Nat, ∃ z : ClassId × (Nat → Nat), ∀ q : vw_C, zt_cl[k]? = some q → u_Kn s q.1 q.2.1 q.2.2 z.1 z.2 := by
    intro k
    cases hq : zt_cl[k]? with
    | none => exact ⟨(0, fun _ => 0), fun q h => by cases h⟩
    | some c =>
      obtain ⟨C, T, N⟩ := c
      have hk : k < 13 := (List.getElem?_eq_some_iff.mp hq).1
      have hi := zl_ins k hk
      rw [hq] at hi
      have hi := hts _ (List.mem_of_getElem? (of_decide_eq_true hi))
      obtain ⟨cC, iS, h⟩ := u_known (C := C) (T := T) (N := N) hTB (zt_clsok (w := (zt_types, zt_cl, (fun _ => 0, fun _ _ => 0), 0, fun _ _ => False, fun _ => True)) rfl k C T N hq).1 hi
      exact ⟨(cC, iS), fun q h' => by cases h'; exact h⟩
  obtain ⟨z, hz⟩ := Classical.axiomOfChoice h0
  exact ⟨(fun k => (z k).1, fun k => (z k).2), fun k q hq => hz k q hq, fun k q h => by simp at h⟩
theorem zl_txt {s : State} {args : Array Value} (hgv : (Jvm.Cond.and given_1 narrow_1).before args s = true) : ∃ adK adV : Nat → Nat, vk_S 10 zt_tn zl_byt adK adV (fun q => s.heap.size ≤ q) s s.heap ∧ ∀ i : Nat, i < 10 → (zl_tm i).eval args s none [] s = some (.ref (adK i)) := by
  have hh : ∀ {k : Nat} {c : Jvm.Cond}, zl_fl[k]? = some c → c.before args s = true := fun h => flat_of_before _ hgv _ (List.mem_of_getElem? h)
  exact vk_Sof (fun i hi => (zl_nn i hi).1) (fun i hi => hh (zl_fa0 i hi).1) (fun i hi => hh (zl_fa0 i hi).2.1) (fun i hi => hh (zl_fa0 i hi).2.2.1) (fun i hi => hh (zl_fa0 i hi).2.2.2) (fun i hi j hj => hh (zl_fa1 i hi j hj)) (fun i j hi hj hij => by
    rcases Nat.lt_or_gt_of_ne hij with h | h
    · exact Or.inl (hh (zl_fa2 j hj i h))
    · exact Or.inr (hh (zl_fa2 i hi j h))) (fun a h z => absurd h (Nat.not_lt.mpr z))
theorem zl_kept {s U : State} (h : zl_Z s U) : ∀ a : Nat, a < s.heap.size → ¬ s.heap.size ≤ a → U.heap[a]? = s.heap[a]? := fun a ha _ => h.2 a ha
theorem zl_world {s : State} {args : Array Value} (hts : ∀ x ∈ lw_tbl, x.before args s = true) (hgv : (Jvm.Cond.and given_1 narrow_1).before args s = true) (D : va_G) : ∃ ad : Nat → Nat, zh_W (zl_w s D ad) ∧ (∀ i, i < 10 → ad i < s.heap.size) ∧ ∀ i j, i < 10 → j < 10 → ad i = ad j → i = j := by
  obtain ⟨ad, adV, hS, hE⟩ := zl_txt hgv
  have hh : ∀ {k : Nat} {c : Jvm.Cond}, zl_fl[k]? = some c → c.before args s = true := fun h => flat_of_before _ hgv _ (List.mem_of_getElem? h)
  have wd : ∀ {k : Nat} {c : Jvm.Cond}, lw_tbl[k]? = some c → c.before args s = true := fun h => hts _ (List.mem_of_getElem? h)
  refine ⟨ad, ⟨rfl, rfl, ⟨fun u U hWm hq hZ => ?_, fun u U hv hh hZ => ?_, fun U hZ t a ht => ?_⟩, fun U hZ q hq => ?_, fun U hZ q hq => ?_, fun U hZ C hC => ?_, fun t a h => h.1, fun U hZ t a ht => ?_, fun U hZ => ?_⟩, fun i hi => ?_, hS.2⟩
  · exact ⟨State.WarmedH.trans (t := u) hZ.1 hWm, fun q h => (hq q h).trans (hZ.2 q h)⟩
  · exact ⟨by rw [hv]; exact hZ.1, fun q h => by rw [hh]; exact hZ.2 q h⟩
  · obtain ⟨t0, t1, rfl⟩ := ht
    obtain ⟨cell, c1, c2, c3, -⟩ := va_O.moved hZ.1.alike ((hS.1 (t - 200) (by omega)).1.kept (zl_kept hZ))
    exact ⟨cell, c1, c2, c3⟩
  · have one : ∀ (i : Nat) (tx : String), i < 10 → (Jvm.Cond.stringRef "WoundTown$Reader" (zl_ix.getD i 0) tx).before args s = true → ∃ a, (200 ≤ 200 + i ∧ 200 + i < 210 ∧ a = ad (200 + i - 200)) ∧ vk_R "WoundTown$Reader" (zl_ix.getD i 0) tx a U := fun i tx hi h => ⟨ad i, ⟨by omega, by omega, by rw [Nat.add_sub_cancel_left]⟩, vk_R.warm hZ.1 (vk_R.of h (hE i hi))⟩
    simp only [zt_tx, List.mem_cons, List.not_mem_nil, or_false] at hq
    rcases hq with rfl | rfl | rfl | rfl | rfl | rfl | rfl | rfl | rfl | rfl
    · exact one 0 "wind key run mend" (by decide) (wd (k := 729) (by decide +kernel))
    · exact one 1 "day turns life done ended little left" (by decide) (wd (k := 817) (by decide +kernel))
    · exact one 2 "turns power hour person oil little life day mood" (by decide) (wd (k := 818) (by decide +kernel))
    · exact one 3 "by" (by decide) (wd (k := 827) (by decide +kernel))
    · exact one 4 "times" (by decide) (wd (k := 837) (by decide +kernel))
    · exact one 5 "if" (by decide) (wd (k := 842) (by decide +kernel))
    · exact one 6 "not" (by decide) (wd (k := 855) (by decide +kernel))
    · exact one 7 "and" (by decide) (wd (k := 864) (by decide +kernel))
    · exact one 8 "or" (by decide) (wd (k := 869) (by decide +kernel))
    · exact one 9 "runs speeds wears snaps bars" (by decide) (wd (k := 874) (by decide +kernel))
  · simp only [zt_ne, List.mem_cons, List.not_mem_nil, or_false] at hq
    rcases hq with rfl | rfl | rfl
    · exact ⟨"WoundTown", va_Nw.warmM hZ.1 (va_Nw.of rfl (wd (k := 1100) (by decide +kernel)))⟩
    · exact ⟨"WoundTown", va_Nw.warmM hZ.1 (va_Nw.of rfl (wd (k := 1181) (by decide +kernel)))⟩
    · exact ⟨"WoundTown", va_Nw.warmM hZ.1 (va_Nw.of rfl (wd (k := 816) (by decide +kernel)))⟩
  · simp only [zt_ao, List.mem_cons, List.not_mem_nil, or_false] at hC
    rcases hC with rfl | rfl
    · exact va_AO.moved hZ.1.alike (va_AO.of (wd (k := 151) (by decide +kernel)))
    · exact va_AO.moved hZ.1.alike (va_AO.of (wd (k := 300) (by decide +kernel)))
  · obtain ⟨t0, t1, rfl⟩ := ht
    have hi : t - 200 < 10 := by omega
    obtain ⟨o1, o2, o3, o4⟩ := hS.1 (t - 200) hi
    exact ⟨_, adV (t - 200), fun j => (zl_byt.getD (t - 200) []).getD j 0, (zl_nn _ hi).2, va_O.moved hZ.1.alike (o1.kept (zl_kept hZ)), va_OF.moved hZ.1.alike (o2.kept (zl_kept hZ)), va_OF.moved hZ.1.alike (o3.kept (zl_kept hZ)), va_T.moved hZ.1.alike (o4.kept (zl_kept hZ)), fun j hj => ⟨zl_bb _ hi j hj, zl_be _ hi j hj⟩⟩
  · have hA : ∀ a : Nat, a < s.heap.size → ¬ s.heap.size ≤ a := fun a h z => absurd h (Nat.not_lt.mpr z)
    exact ⟨va_Z.moved hZ.1.alike ((va_Zof (wd (k := 743) (by decide +kernel)) (wd (k := 129) (by decide +kernel)) (va_eqt (hh zl_fa3.1)) hA).kept (zl_kept hZ)), va_Zq.moved hZ.1.alike ((va_Zqof (wd (k := 759) (by decide +kernel)) (wd (k := 131) (by decide +kernel)) (hh zl_fa3.2) hA).kept (zl_kept hZ))⟩
  · obtain ⟨cell, c1, -⟩ := (hS.1 i hi).1
    exact (Array.getElem?_eq_some_iff.mp c1).1
