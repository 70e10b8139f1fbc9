/-! part hq: a field that holds a reference is written -/
noncomputable def zp_pr (eff : List (Nat × Nat × Nat)) (t k : Nat) : Bool := zp_eb eff t k && decide (k < 1000) && zk_rel.all (fun r => r.1 != t)
section ZHQ
variable {p : Program} {l : Launch} {e : Env} {R : Room} {s : State} {m : MethodId} {args : Array Value} {below : List Frame} {meth : Method} {c : Code} {Q : State → Prop}
variable {cc : ByteArray} {w : zk_W} {u : zk_M} {Ts : List Jvm.Cond} {own : String}
variable {xs : List Nat} {pc : Nat} {L : List (Nat × Nat × Int)} {S : List (Nat × Int)} {P : Nat → Option Nat} {G : Nat → Nat → Int}
theorem zp_putr (hx : p.tables.exec = Jvm.exec) (hb : c.code = cc) {E : zk_Ev} (hE : zk_ctx l R s m args meth c w u zt_TB own zt_TB zt_mn E) (hw : w.1 = zt_types) {eff : List (Nat × Nat × Nat)} (heff : u.2.2.2.1 = eff) {idx ci k j x a t : Nat} {lo hi n : Int} (hdg : decode cc pc = .ok (.putfield idx, 3)) (hlk : E.2.1[j]? = some (2, idx, ci, k, 2)) (hf : zp_fd t k = some (ci, 2, x, lo, hi)) (hpb : zp_pr eff t k = true) (hp : P a = some t) (hok : zk_ok P (2, x, lo, hi) n) (kk : zp_J p l e R s m args below meth c Q w u xs (pc + 3) L S P (zp_set G a k n)) : zp_J p l e R s m args below meth c Q w u xs pc L ((2, n) :: (2, (a : Int)) :: S) P G := by
  obtain ⟨-, e4, e5, e6, e7, e8, e9, e10, -⟩ := hE
  obtain ⟨e3, C, T0, N0, fty, y4, y5, y6, y7, y8⟩ := e10 _ (List.mem_of_getElem? hlk)
  dsimp only at e3 y4 y5 y6 y7 y8
  unfold zp_pr at hpb
  simp only [Bool.and_eq_true, decide_eq_true_eq, beq_iff_eq] at hpb
  obtain ⟨⟨b1, b2⟩, b3⟩ := hpb
  intro F H locs ls hF hI hL hkL hkS
  have hkd : (2 : Nat) ≤ 2 := Nat.le_refl _
  obtain ⟨r1, fs, T, t1, t2, t3, t4, o1, o2, o3, v1⟩ := zp_rdf hI.1 hw hp hf hkd
  have hlen : k < fs.length := (List.getElem?_eq_some_iff.mp v1).1
  have hty : ∀ (C : String) (T : u_T) (N : Nat), w.2.1[ci]? = some (C, T, N) → ∃ ty, parseFieldDescriptor (T k).2.2.1 = some ty ∧ narrow ty (zk_mk 2 n) = zk_mk 2 n ∧ fits ty (zk_mk 2 n) = true := by
    intro C' T' N' h
    cases y4.symm.trans h
    refine ⟨fty, y5, ?_⟩
    have y6 : zk_tyc fty = 2 := y6
    have hv : zk_mk 2 n = Value.null ∨ ∃ r, zk_mk 2 n = Value.ref r := by
      by_cases h0 : n < 0
      · exact Or.inl (if_pos h0)
      · exact Or.inr ⟨_, if_neg h0⟩
    cases fty <;> simp [zk_tyc] at y6
    · rcases hv with hv | ⟨r, hv⟩ <;> rw [hv] <;> exact ⟨rfl, rfl⟩
    · rcases hv with hv | ⟨r, hv⟩ <;> rw [hv] <;> exact ⟨rfl, rfl⟩
  have hsame : zk_same (fun j => j = k) (F a) (.inr (ci, fs.set k (zk_mk 2 n))) := by
    rw [o1]
    refine ⟨rfl, by simp, fun j hj => ?_⟩
    show fs[j]? = (fs.set k (zk_mk 2 n))[j]?
    rw [List.getElem?_set_ne (fun h => hj h.symm)]
  show W p l e R s m args below meth c H locs 0 0 Q (F0 m pc ls (zk_mk 2 n :: zk_mk 2 (a : Int) :: S.map (fun q => zk_mk q.1 q.2)))
  rw [zp_ref]
  refine zw_putf hx hb e4 e5 e6 e7 e3 o3 (fun C' T' N' h => Or.inl ?_) hty hlen hdg (fun H1 j hat hz hk => ?_)
  · cases y4.symm.trans h
    rw [y7]
    exact decide_eq_false (by decide)
  · refine kk _ H1 _ ls ?_ (zp_wr hI hp t1 ?_ hat hz hk hsame (fun k' hk' => ?_) (Or.inr ?_)) hL hkL (zp_tl (zp_tl hkS).2).2
    · funext b i
      by_cases hba : b = a
      · subst hba
        unfold zp_n zp_set
        rw [zk_up_self]
        show (match (fs.set k (zk_mk 2 n))[i]? with | some v => zp_num v | none => 0) = _
        by_cases hik : i = k
        · subst hik
          rw [List.getElem?_set_self hlen, if_pos ⟨rfl, rfl⟩]
          exact zp_num_mk hok hkd
        · rw [List.getElem?_set_ne (fun h => hik h.symm), if_neg (fun h => hik h.2), ← hF]
          unfold zp_n
          rw [o1]
          rfl
      · rw [zp_set_ne (Or.inl hba), ← hF]
        unfold zp_n
        rw [zk_up_ne hba]
    · unfold zk_el
      rw [t2]
      refine ⟨fs.set k (zk_mk 2 n), by rw [t3], zk_all2_setR o2 (fun g hg => ?_)⟩
      cases t4.symm.trans hg
      exact ⟨n, hok, rfl⟩
    · subst hk'
      rw [heff]
      refine zp_eb_ok b1 ?_
      unfold zk_pm
      rw [zk_er_lt b2]
      exact ⟨Nat.le_refl _, Nat.le_refl _⟩
    · intro r hr hrt
      have := List.all_eq_true.mp b3 r hr
      rw [bne_iff_ne] at this
      exact absurd hrt this
end ZHQ
