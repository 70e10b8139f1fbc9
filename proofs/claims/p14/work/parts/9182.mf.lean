/-! part mf: the calls that change the row besides -/
theorem zRw_3 {V V' : Nat → Nat → Int} (h : ∀ j, V' 3 (2000 + j) = V 3 (2000 + j)) : zRw V' = zRw V := funext fun j => h j
theorem zf_stl_o {V : Nat → Nat → Int} {v : Int} {o k : Nat} (h2 : o ≠ 2) (h0 : o ≠ 0) : (zf_stl V v).2 o k = V o k := by
  unfold zf_stl
  split
  · exact (zT_tell_k h2 (Or.inl h0)).trans (zp_set_ne (Or.inl h0))
  · exact (zT_tell_k h2 (Or.inl h0)).trans (zp_set_ne (Or.inl h0))
theorem zLaw_k {A : Nat → Nat} {Y : List (Nat × Nat)} {F : List (Nat × Nat × Nat)} {V V' W W' : Nat → Nat → Int} (hW : ∀ o k, zWx o k → W' o k = W o k) (hR : ∀ j, (j = 3 ∨ j = 4 ∨ 180 ≤ j) → V' 3 (2000 + j) = V 3 (2000 + j)) (h : zLaw A Y F W 40 (zRw V)) : zLaw A Y F W' 40 (zRw V') := zLaw_e (fun i _ => hW _ _ (by unfold zWx; omega)) (fun o k t _ _ ho => hW _ _ (by unfold zWx; omega)) (fun j hj _ => hR j hj) h
/-- the row changed otherwise, laws as they were -/
theorem zF_r {A : Nat → Nat} {Y : List (Nat × Nat)} {F : List (Nat × Nat × Nat)} {V V' W W' : Nat → Nat → Int} {n1 np n1' np' : Nat} {Lw : List yK} (h : zCo V W n1 np Lw) (hl : zLF A Y F W Lw) (he : zEx A Y F V W n1 np) (hc : zCo V' W' n1' np' Lw) (hR : ∀ j, (j = 3 ∨ j = 4 ∨ 180 ≤ j) → V' 3 (2000 + j) = V 3 (2000 + j)) (hr : zRow (zRw V') n1' np') (hV : ∀ o k, o ≠ 3 → zVx o k → V' o k = V o k) (hW : ∀ o k, zWx o k → W' o k = W o k) : zFull A Y F V' W' := by
  obtain ⟨a1, a2⟩ := zRr_34 h.1
  obtain ⟨b1, b2⟩ := zRr_34 hc.1
  obtain ⟨c1, c2, c3, ⟨c4, c5, c6⟩, c7, c8, c9⟩ := he
  have vo : ∀ o k, (o = 4 ∨ o = 5 ∨ o = 12 ∨ o = 31 ∨ o = 32 ∨ o = 33 ∨ o = 62 ∨ (o = 0 ∧ (k = 11 ∨ k = 13 ∨ k = 18 ∨ k = 30 ∨ k = 59 ∨ k = 63))) → V' o k = V o k := fun o k ho => hV o k (by omega) (Or.inr ho)
  have wo : ∀ o k, (o = 40 ∨ 100 ≤ o ∨ o = 22 ∨ o = 11 ∨ o = 71 ∨ o = 7 ∨ o = 55 ∨ (o = 0 ∧ (k = 15 ∨ k = 17)) ∨ (o = 12 ∧ k = 2) ∨ (o = 6 ∧ (k = 2 ∨ k = 3))) → W' o k = W o k := fun o k ho => hW o k ho
  refine ⟨n1', np', Lw, hc, zLF_k ?_ ?_ (fun k => hW _ _ (Or.inl rfl)) (fun o k ho => hW _ _ (Or.inr (Or.inl ho))) hl, zLaw_k hW hR c1, hr, zTp_e (vo _ _ (by omega)) (fun k => vo _ _ (by omega)) (wo _ _ (by omega)) (fun k => wo _ _ (by omega)) c3, ⟨?_, ?_, ?_⟩, zDwn_e (vo _ _ (by omega)) (fun k => vo _ _ (by omega)) (fun o k ho => wo _ _ (by omega)) c7, zIms_e (fun k => vo _ _ (by omega)) (fun k => vo _ _ (by omega)) (fun k => wo _ _ (by omega)) (fun o k ho => wo _ _ (by omega)) c8, zCst_e ?_ (fun o k ho => vo _ _ (by omega)) c9⟩
  · rw [a1, b1]
    exact hR 3 (Or.inl rfl)
  · rw [a2, b2]
    exact hR 4 (Or.inr (Or.inl rfl))
  · rw [wo 0 17 (by omega), vo 0 11 (by omega)]
    exact c4
  · rw [wo 12 2 (by omega), vo 0 18 (by omega)]
    exact c5
  · rw [wo 0 15 (by omega), vo 0 59 (by omega)]
    exact c6
  · rw [vo 0 30 (by omega)]
    exact c9.1
theorem zP_per {A : Nat → Nat} {Y : List (Nat × Nat)} {F : List (Nat × Nat × Nat)} {V W : Nat → Nat → Int} {n1 np : Nat} {Lw : List yK} {p1 p2 : Int} (h : zCo V W n1 np Lw) (hl : zLF A Y F W Lw) (he : zEx A Y F V W n1 np) : (zf_perc W p1 p2).1 = (zf_per V np p1 p2).1 ∧ zFull A Y F (zf_per V np p1 p2).2 (zf_perc W p1 p2).2 := by
  obtain ⟨e0, np', hc⟩ := zS_per (p1 := p1) (p2 := p2) h
  obtain ⟨⟨hn1, hnp⟩, ⟨-, hz⟩, -⟩ := zCo_n h
  have hz' := (zCo_n hc).2.1.2
  have q : (np : Int) ≤ (zf_per V np p1 p2).2 3 (2000 + 0) := by
    unfold zf_per
    repeat' split
    all_goals try dsimp only
    all_goals first
      | (show (np : Int) ≤ (zf_stl _ _).2 3 (2000 + 0); rw [zf_stl_o (by decide) (by decide), zp_set_self]; omega)
      | (show (np : Int) ≤ zT_tell _ _ 3 (2000 + 0); rw [zT_tell_k (by decide) (Or.inl (by decide)), zp_set_ne (Or.inl (by decide))]; omega)
  have hv : ∀ j, (j = 2 ∨ j = 3 ∨ j = 4 ∨ j = 6 ∨ 39 ≤ j) → (zf_per V np p1 p2).2 3 (2000 + j) = V 3 (2000 + j) := fun j hj => by
    unfold zf_per
    repeat' split
    all_goals try dsimp only
    all_goals first
      | (show zT_tell _ _ 3 (2000 + j) = _; exact (zT_tell_k (by decide) (Or.inl (by decide))).trans (zp_set_ne (Or.inl (by decide))))
      | (show (zf_stl _ _).2 3 (2000 + j) = _; refine (zf_stl_o (by decide) (by decide)).trans ?_; simp (disch := omega) only [zp_set_ne])
  refine ⟨e0, zF_r h hl he hc (fun j hj => hv j (by omega)) (zRow_p (by omega) (zRow_e hn1 (fun j hj _ => hv j (by unfold zVr at hj; omega)) he.2.1)) (fun o k h3 ho => ?_) (fun o k ho => ?_)⟩
  · unfold zf_per
    repeat' split
    all_goals try dsimp only
    all_goals first
      | exact zVx_rf ho
      | (refine (zVx_stl ho).trans ?_
         have h9 := ho
         unfold zVx at h9
         simp (disch := omega) only [zp_set_ne])
  · have h9 := ho
    unfold zWx at h9
    unfold zf_perc zf_adp1
    repeat' split
    all_goals try dsimp only
    all_goals first | exact zWx_rfs ho | simp (disch := omega) only [zf_ans, zf_clr3, zp_set_ne]
theorem zP_ter {A : Nat → Nat} {Y : List (Nat × Nat)} {F : List (Nat × Nat × Nat)} {V W : Nat → Nat → Int} {n1 np : Nat} {Lw : List yK} {p1 p2 : Int} (h : zCo V W n1 np Lw) (hl : zLF A Y F W Lw) (he : zEx A Y F V W n1 np) : (zf_terc W p1 p2).1 = (zf_ter V p1 p2).1 ∧ zFull A Y F (zf_ter V p1 p2).2 (zf_terc W p1 p2).2 := by
  obtain ⟨e0, hc⟩ := zS_ter (p1 := p1) (p2 := p2) h
  obtain ⟨⟨hn1, hnp⟩, -⟩ := zCo_n h
  have hv : ∀ j, (j = 2 ∨ j = 3 ∨ j = 4 ∨ 39 ≤ j) → (zf_ter V p1 p2).2 3 (2000 + j) = V 3 (2000 + j) := fun j hj => by
    unfold zf_ter
    repeat' split
    all_goals try dsimp only
    all_goals first
      | (show zT_tell _ _ 3 (2000 + j) = _; exact (zT_tell_k (by decide) (Or.inl (by decide))).trans (zp_set_ne (Or.inl (by decide))))
      | simp (disch := omega) only [zp_set_ne]
  have h6 : 0 ≤ (zf_ter V p1 p2).2 3 (2000 + 6) ∧ (zf_ter V p1 p2).2 3 (2000 + 6) ≤ 12 := by
    have g6 : 0 ≤ V 3 (2000 + 6) ∧ V 3 (2000 + 6) ≤ 12 := he.2.1.2.2.2.1
    unfold zf_ter
    repeat' split
    all_goals try dsimp only
    all_goals first
      | (show 0 ≤ zT_tell _ _ 3 (2000 + 6) ∧ zT_tell _ _ 3 (2000 + 6) ≤ 12; rw [zT_tell_k (by decide) (Or.inl (by decide)), zp_set_ne (Or.inl (by decide))]; exact g6)
      | (simp (disch := omega) only [zp_set_ne, zp_set_self]; omega)
  have hr : zRow (zRw (zf_ter V p1 p2).2) n1 np := by
    obtain ⟨⟨ns, s1, s2, s3⟩, o1, w1, r6, z1, z2, z3⟩ := he.2.1
    have e : ∀ j, (j = 2 ∨ j = 3 ∨ j = 4 ∨ 39 ≤ j) → zRw (zf_ter V p1 p2).2 j = zRw V j := fun j hj => hv j hj
    refine ⟨⟨ns, s1, (e 2 (by omega)).trans s2, fun s hs => ?_⟩, fun w hw => ?_, fun w hw => ?_, h6, (e 177 (by omega)).trans z1, (e 178 (by omega)).trans z2, (e 179 (by omega)).trans z3⟩
    · rw [e (3 * s + 153) (by omega), e (3 * s + 154) (by omega)]
      exact s3 s hs
    · rw [e (5 * w + 39) (by omega)]
      exact o1 w hw
    · rw [e (5 * w + 42) (by omega)]
      exact w1 w hw
  refine ⟨e0, zF_r h hl he hc (fun j hj => hv j (by omega)) hr (fun o k h3 ho => ?_) (fun o k ho => ?_)⟩
  · have h9 := ho
    unfold zVx at h9
    unfold zf_ter
    repeat' split
    all_goals try dsimp only
    all_goals first | exact zVx_rf ho | simp (disch := omega) only [zp_set_ne]
  · have h9 := ho
    unfold zWx at h9
    unfold zf_terc
    repeat' split
    all_goals try dsimp only
    all_goals first | exact zWx_rfs ho | simp (disch := omega) only [zf_ans, zf_clr3, zp_set_ne]
/-- a work more -/
theorem zWa_j {V : Nat → Nat → Int} {n1 : Nat} {a b c d e : Int} {j : Nat} (h1 : j ≠ 1) (h2 : j ≠ n1 + 29) (h3 : j < 5 * n1 + 39 ∨ 5 * n1 + 44 ≤ j) : zWa V n1 a b c d e 3 (2000 + j) = V 3 (2000 + j) := by
  unfold zWa
  simp (disch := omega) only [zp_set_ne]
theorem zRow_wa {V : Nat → Nat → Int} {n1 np : Nat} {a b c d e : Int} (hn : n1 < 10) (ha : 0 ≤ a ∧ a < (np : Int)) (hd : 1 ≤ d ∧ d ≤ 99) (h : zRow (zRw V) n1 np) : zRow (zRw (zWa V n1 a b c d e)) (n1 + 1) np := by
  obtain ⟨⟨ns, s1, s2, s3⟩, o1, w1, r6, z1, z2, z3⟩ := h
  have e9 : ∀ j, j ≠ 1 → j ≠ n1 + 29 → (j < 5 * n1 + 39 ∨ 5 * n1 + 44 ≤ j) → zRw (zWa V n1 a b c d e) j = zRw V j := fun j h1 h2 h3 => zWa_j h1 h2 h3
  have e39 : zRw (zWa V n1 a b c d e) (5 * n1 + 39) = a := by
    show zWa V n1 a b c d e 3 (2000 + (5 * n1 + 39)) = a
    unfold zWa
    simp (disch := omega) only [zp_set_ne, zp_set_self]
  have e42 : zRw (zWa V n1 a b c d e) (5 * n1 + 42) = d := by
    show zWa V n1 a b c d e 3 (2000 + (5 * n1 + 42)) = d
    unfold zWa
    simp (disch := omega) only [zp_set_ne, zp_set_self]
  refine ⟨⟨ns, s1, (e9 2 (by omega) (by omega) (by omega)).trans s2, fun s hs => ?_⟩, fun w hw => ?_, fun w hw => ?_, ?_, (e9 177 (by omega) (by omega) (by omega)).trans z1, (e9 178 (by omega) (by omega) (by omega)).trans z2, (e9 179 (by omega) (by omega) (by omega)).trans z3⟩
  · rw [e9 (3 * s + 153) (by omega) (by omega) (by omega), e9 (3 * s + 154) (by omega) (by omega) (by omega)]
    have h9 := s3 s hs
    omega
  · by_cases cw : w = n1
    · rw [cw, e39]
      exact ha
    · rw [e9 (5 * w + 39) (by omega) (by omega) (by omega)]
      exact o1 w (by omega)
  · by_cases cw : w = n1
    · rw [cw, e42]
      omega
    · rw [e9 (5 * w + 42) (by omega) (by omega) (by omega)]
      exact w1 w (by omega)
  · rw [e9 6 (by omega) (by omega) (by omega)]
    exact r6
theorem zRow_wk1 {X : Nat → Nat → Int} {n np : Nat} {a b c d e : Int} (h1 : X 3 (2000 + 1) = (n : Int)) (hn : n ≤ 10) (h : zRow (zRw X) n np) : (∃ n' : Nat, zRow (zRw (zf_wk1 X np n a b c d e).2) n' np ∧ (zf_wk1 X np n a b c d e).2 3 (2000 + 1) = (n' : Int) ∧ n' ≤ 10) ∧ ∀ j, (j = 3 ∨ j = 4 ∨ 180 ≤ j) → (zf_wk1 X np n a b c d e).2 3 (2000 + j) = X 3 (2000 + j) := by
  by_cases cc : ((1 ≤ b ∧ b ≤ 600) ∧ (0 ≤ c ∧ c ≤ 23) ∧ (1 ≤ d ∧ d ≤ 99) ∧ (0 ≤ a ∧ a < (np : Int)) ∧ -1 ≤ e ∧ e < (n : Int)) ∧ n < 10
  · obtain ⟨hc, hn9⟩ := cc
    rw [zf_wk1_s hc hn9]
    obtain ⟨c1, c2, c3, c4, c5⟩ := hc
    refine ⟨⟨n + 1, zRow_wa hn9 c4 c3 h, ?_, by omega⟩, fun j hj => zWa_j (by omega) (by omega) (by omega)⟩
    show zWa X n a b c d e 3 (2000 + 1) = _
    unfold zWa
    rw [zp_set_self]
    omega
  · rw [zf_wk1_r hn cc]
    exact ⟨⟨n, h, h1, hn⟩, fun _ _ => rfl⟩
theorem zP_wrk {A : Nat → Nat} {Y : List (Nat × Nat)} {F : List (Nat × Nat × Nat)} {V W : Nat → Nat → Int} {n1 np : Nat} {Lw : List yK} {p1 p2 p3 p4 p5 : Int} (h : zCo V W n1 np Lw) (hl : zLF A Y F W Lw) (he : zEx A Y F V W n1 np) : (zf_wrkc W p1 p2 p3 p4 p5).1 = (zf_wrk V np n1 p1 p2 p3 p4 p5).1 ∧ zFull A Y F (zf_wrk V np n1 p1 p2 p3 p4 p5).2 (zf_wrkc W p1 p2 p3 p4 p5).2 := by
  obtain ⟨e0, n1', hc⟩ := zS_wrk (p1 := p1) (p2 := p2) (p3 := p3) (p4 := p4) (p5 := p5) h
  obtain ⟨⟨hn1, hnp⟩, ⟨hz1, -⟩, -⟩ := zCo_n h
  have h1' := (zCo_n hc).2.1.1
  have v3 : ∀ k, (zf_wrk V np n1 p1 p2 p3 p4 p5).2 3 k = (zf_wk1 (zp_set V 0 0 0) np n1 p1 p2 p3 p4 p5).2 3 k := fun k => zf_stl_o (by decide) (by decide)
  obtain ⟨⟨m, g1, g2, g3⟩, g4⟩ := zRow_wk1 (X := zp_set V 0 0 0) (n := n1) (np := np) (a := p1) (b := p2) (c := p3) (d := p4) (e := p5) ((zp_set_ne (Or.inl (by decide))).trans hz1) hn1 (zRow_e hn1 (fun j _ _ => zp_set_ne (Or.inl (by decide))) he.2.1)
  have hm : m = n1' := by
    have h9 := (v3 (2000 + 1)).symm.trans h1'
    omega
  subst hm
  refine ⟨e0, zF_r h hl he hc (fun j hj => (v3 _).trans ((g4 j hj).trans (zp_set_ne (Or.inl (by decide))))) (zRow_e g3 (fun j _ _ => v3 _) g1) (fun o k h3 ho => ?_) (fun o k ho => ?_)⟩
  · exact (zVx_stl ho).trans ((zf_wk1_f (fun hm => h3 (List.mem_singleton.mp hm))).trans (zVx_0 ho))
  · have h9 := ho
    unfold zWx at h9
    unfold zf_wrkc zf_adw1
    repeat' split
    all_goals try dsimp only
    all_goals first | exact zWx_rfs ho | simp (disch := omega) only [zf_ans, zf_clr3, zp_set_ne]
/-- sights -/
theorem zP_sig {A : Nat → Nat} {Y : List (Nat × Nat)} {F : List (Nat × Nat × Nat)} {V W : Nat → Nat → Int} {n1 np ns : Nat} {Lw : List yK} {p1 p2 p3 : Int} (h : zCo V W n1 np Lw) (hl : zLF A Y F W Lw) (he : zEx A Y F V W n1 np) (hns : V 3 (2000 + 2) = (ns : Int)) (hn8 : ns ≤ 8) : (zf_sigc W p1 p2 p3).1 = (zf_sig V n1 ns p1 p2 p3).1 ∧ zFull A Y F (zf_sig V n1 ns p1 p2 p3).2 (zf_sigc W p1 p2 p3).2 := by
  obtain ⟨e0, hc⟩ := zS_sig (p1 := p1) (p2 := p2) (p3 := p3) h hns hn8
  obtain ⟨⟨hn1, hnp⟩, -⟩ := zCo_n h
  have hv : ∀ j, (j = 3 ∨ j = 4 ∨ j = 6 ∨ (39 ≤ j ∧ j < 153) ∨ 177 ≤ j) → (zf_sig V n1 ns p1 p2 p3).2 3 (2000 + j) = V 3 (2000 + j) := fun j hj => by
    unfold zf_sig
    repeat' split
    all_goals try dsimp only
    all_goals first
      | (refine (zT_tell_k (by decide) (Or.inl (by decide))).trans ?_; simp (disch := omega) only [zp_set_ne])
  have hr : zRow (zRw (zf_sig V n1 ns p1 p2 p3).2) n1 np := by
    obtain ⟨⟨ns', s1, s2, s3⟩, o1, w1, r6, z1, z2, z3⟩ := he.2.1
    obtain rfl : ns' = ns := by
      have h9 : V 3 (2000 + 2) = (ns' : Int) := s2
      omega
    have e : ∀ j, (j = 3 ∨ j = 4 ∨ j = 6 ∨ (39 ≤ j ∧ j < 153) ∨ 177 ≤ j) → zRw (zf_sig V n1 ns' p1 p2 p3).2 j = zRw V j := fun j hj => hv j hj
    refine ⟨?_, fun w hw => ?_, fun w hw => ?_, ?_, (e 177 (by omega)).trans z1, (e 178 (by omega)).trans z2, (e 179 (by omega)).trans z3⟩
    · have old : ∀ X : Nat → Nat → Int, (∀ j, X 3 (2000 + j) = V 3 (2000 + j)) → ∃ ns : Nat, zSg (zRw X) n1 ns := fun X hX => by
        rw [zRw_3 hX]
        exact ⟨ns', s1, s2, s3⟩
      unfold zf_sig
      repeat' split
      all_goals try dsimp only
      all_goals first
        | (refine old _ (fun j => ?_); exact (zT_tell_k (by decide) (Or.inl (by decide))).trans (zp_set_ne (Or.inl (by decide))))
        | skip
      refine ⟨ns' + 1, by omega, ?_, fun s hs => ?_⟩
      · refine (zT_tell_k (by decide) (Or.inl (by decide))).trans (zp_set_self.trans ?_)
        omega
      · by_cases cs : s = ns'
        · subst cs
          have t1 : ∀ X : Nat → Nat → Int, ∀ v : Int, zRw (zT_tell X v) (3 * s + 153) = X 3 (2000 + (3 * s + 153)) := fun X v => zT_tell_k (by decide) (Or.inl (by decide))
          have t2 : ∀ X : Nat → Nat → Int, ∀ v : Int, zRw (zT_tell X v) (3 * s + 154) = X 3 (2000 + (3 * s + 154)) := fun X v => zT_tell_k (by decide) (Or.inl (by decide))
          rw [t1, t2]
          simp (disch := omega) only [zp_set_ne, zp_set_self]
          omega
        · have t1 : ∀ X : Nat → Nat → Int, ∀ v : Int, zRw (zT_tell X v) (3 * s + 153) = X 3 (2000 + (3 * s + 153)) := fun X v => zT_tell_k (by decide) (Or.inl (by decide))
          have t2 : ∀ X : Nat → Nat → Int, ∀ v : Int, zRw (zT_tell X v) (3 * s + 154) = X 3 (2000 + (3 * s + 154)) := fun X v => zT_tell_k (by decide) (Or.inl (by decide))
          rw [t1, t2]
          simp (disch := omega) only [zp_set_ne]
          exact s3 s (by omega)
    · rw [e (5 * w + 39) (by omega)]
      exact o1 w hw
    · rw [e (5 * w + 42) (by omega)]
      exact w1 w hw
    · rw [e 6 (by omega)]
      exact r6
  refine ⟨e0, zF_r h hl he hc (fun j hj => hv j (by omega)) hr (fun o k h3 ho => ?_) (fun o k ho => ?_)⟩
  · have h9 := ho
    unfold zVx at h9
    unfold zf_sig
    repeat' split
    all_goals try dsimp only
    all_goals first | exact zVx_rf ho | (refine (zVx_tell ho).trans ?_; simp (disch := omega) only [zp_set_ne])
  · have h9 := ho
    unfold zWx at h9
    unfold zf_sigc zf_ads1
    repeat' split
    all_goals try dsimp only
    all_goals first | exact zWx_rfs ho | simp (disch := omega) only [zf_ans, zf_clr3, zp_set_ne]
theorem zP_fgt {A : Nat → Nat} {Y : List (Nat × Nat)} {F : List (Nat × Nat × Nat)} {V W : Nat → Nat → Int} {n1 np : Nat} {Lw : List yK} (h : zCo V W n1 np Lw) (hl : zLF A Y F W Lw) (he : zEx A Y F V W n1 np) : (zf_fgtc W).1 = (zf_fgt V).1 ∧ zFull A Y F (zf_fgt V).2 (zf_fgtc W).2 := by
  obtain ⟨e0, hc⟩ := zS_fgt h
  have hv : ∀ j, j ≠ 2 → (zf_fgt V).2 3 (2000 + j) = V 3 (2000 + j) := fun j hj => (zp_set_ne (Or.inr (by omega))).trans (zp_set_ne (Or.inl (by decide)))
  have hr : zRow (zRw (zf_fgt V).2) n1 np := by
    obtain ⟨-, o1, w1, r6, z1, z2, z3⟩ := he.2.1
    have e : ∀ j, j ≠ 2 → zRw (zf_fgt V).2 j = zRw V j := fun j hj => hv j hj
    refine ⟨⟨0, by decide, show zp_set (zp_set V 0 0 0) 3 (2000 + 2) 0 3 (2000 + 2) = 0 from zp_set_self, fun s hs => absurd hs (Nat.not_lt_zero s)⟩, fun w hw => ?_, fun w hw => ?_, ?_, (e 177 (by omega)).trans z1, (e 178 (by omega)).trans z2, (e 179 (by omega)).trans z3⟩
    · rw [e (5 * w + 39) (by omega)]
      exact o1 w hw
    · rw [e (5 * w + 42) (by omega)]
      exact w1 w hw
    · rw [e 6 (by omega)]
      exact r6
  refine ⟨e0, zF_r h hl he hc (fun j hj => hv j (by omega)) hr (fun o k h3 ho => ?_) (fun o k ho => ?_)⟩
  · have h9 := ho
    unfold zVx at h9
    unfold zf_fgt
    simp (disch := omega) only [zp_set_ne]
  · have h9 := ho
    unfold zWx at h9
    unfold zf_fgtc
    simp (disch := omega) only [zp_set_ne]
/-- another law in force -/
theorem zP_frc {A : Nat → Nat} {Y : List (Nat × Nat)} {F : List (Nat × Nat × Nat)} {V W : Nat → Nat → Int} {n1 np nl : Nat} {Lw : List yK} {p1 : Int} (h : zCo V W n1 np Lw) (hl : zLF A Y F W Lw) (he : zEx A Y F V W n1 np) (hnl : V 3 (2000 + 3) = (nl : Int)) (hn6 : nl ≤ 6) : (zf_frcc W p1).1 = (zf_frc V nl p1).1 ∧ zFull A Y F (zf_frc V nl p1).2 (zf_frcc W p1).2 := by
  obtain ⟨a1, a2⟩ := zRr_34 h.1
  obtain ⟨⟨hn1, hnp⟩, -⟩ := zCo_n h
  have good : (-1 ≤ p1 ∧ p1 < (nl : Int)) → (zf_ans (zp_set W 1 15 p1) (W 1 15)).1 = V 3 (2000 + 4) ∧ zFull A Y F (zp_set (zp_set (zp_set V 0 0 0) 3 (2000 + 4) p1) 0 1 0) (zf_ans (zp_set W 1 15 p1) (W 1 15)).2 := fun hp => by
    obtain ⟨g1, g2, g3, g4, g5, g6⟩ := h
    obtain ⟨c1, c2, c3, c4, c5, c6, c7⟩ := he
    have hw : ∀ o k, zWx o k → (zf_ans (zp_set W 1 15 p1) (W 1 15)).2 o k = W o k := fun o k ho => by
      have h9 := ho
      unfold zWx at h9
      exact (zWx_ans ho).trans (zp_set_ne (by omega))
    have hv3 : ∀ j, j ≠ 4 → zp_set (zp_set (zp_set V 0 0 0) 3 (2000 + 4) p1) 0 1 0 3 (2000 + j) = V 3 (2000 + j) := fun j hj => (zp_set_ne (Or.inl (by decide))).trans ((zp_set_ne (Or.inr (by omega))).trans (zp_set_ne (Or.inl (by decide))))
    have hv4 : zp_set (zp_set (zp_set V 0 0 0) 3 (2000 + 4) p1) 0 1 0 3 (2000 + 4) = p1 := (zp_set_ne (Or.inl (by decide))).trans zp_set_self
    have hlaw : zLaw A Y F (zf_ans (zp_set W 1 15 p1) (W 1 15)).2 40 (zRw (zp_set (zp_set (zp_set V 0 0 0) 3 (2000 + 4) p1) 0 1 0)) := by
      obtain ⟨nl', q1, q2, q3, q4⟩ := c1
      have q1' : V 3 (2000 + 3) = (nl' : Int) := q1
      refine ⟨nl', (hv3 3 (by decide)).trans q1', q2, ?_, fun i hi => ?_⟩
      · show -1 ≤ zp_set (zp_set (zp_set V 0 0 0) 3 (2000 + 4) p1) 0 1 0 3 (2000 + 4) ∧ zp_set (zp_set (zp_set V 0 0 0) 3 (2000 + 4) p1) 0 1 0 3 (2000 + 4) < (nl' : Int)
        rw [hv4]
        omega
      · obtain ⟨L, c, r1, r2, r3⟩ := q4 i hi
        exact ⟨L, c, zTx_e (fun j h1 h2 => hv3 j (by omega)) (by omega) r1, (hw _ _ (by unfold zWx; omega)).trans r2, zLT_c r3 (fun o k ho => hw o k (by unfold zWx; omega))⟩
    have w14 : (zf_ans (zp_set W 1 15 p1) (W 1 15)).2 1 14 = zRw (zp_set (zp_set (zp_set V 0 0 0) 3 (2000 + 4) p1) 0 1 0) 3 := by
      show zp_set (zp_set W 1 15 p1) 0 18 0 1 14 = zp_set (zp_set (zp_set V 0 0 0) 3 (2000 + 4) p1) 0 1 0 3 (2000 + 3)
      rw [hv3 3 (by decide), zp_set_ne (Or.inl (by decide)), zp_set_ne (Or.inr (by decide))]
      exact a1
    have w15 : (zf_ans (zp_set W 1 15 p1) (W 1 15)).2 1 15 = zRw (zp_set (zp_set (zp_set V 0 0 0) 3 (2000 + 4) p1) 0 1 0) 4 := by
      show zp_set (zp_set W 1 15 p1) 0 18 0 1 15 = zp_set (zp_set (zp_set V 0 0 0) 3 (2000 + 4) p1) 0 1 0 3 (2000 + 4)
      rw [hv4, zp_set_ne (Or.inl (by decide)), zp_set_self]
    obtain ⟨Lw', k1, k2, k3, k4⟩ := zLaw_f w14 w15 hlaw
    have hrow : zRow (zRw (zp_set (zp_set (zp_set V 0 0 0) 3 (2000 + 4) p1) 0 1 0)) n1 np := by
      refine zRow_e (R := zRw (zp_set (zp_set V 0 0 0) 3 (2000 + 4) p1)) hn1 (fun j _ _ => zp_set_ne (Or.inl (by decide))) ?_
      obtain ⟨⟨ns, s1, s2, s3⟩, o1, w1, r6, z1, z2, z3⟩ := c2
      have e : ∀ j, j ≠ 4 → zRw (zp_set (zp_set V 0 0 0) 3 (2000 + 4) p1) j = zRw V j := fun j hj => (zp_set_ne (Or.inr (by omega))).trans (zp_set_ne (Or.inl (by decide)))
      refine ⟨⟨ns, s1, (e 2 (by omega)).trans s2, fun s hs => ?_⟩, fun w hw => ?_, fun w hw => ?_, ?_, (e 177 (by omega)).trans z1, (e 178 (by omega)).trans z2, (e 179 (by omega)).trans z3⟩
      · rw [e (3 * s + 153) (by omega), e (3 * s + 154) (by omega)]
        exact s3 s hs
      · rw [e (5 * w + 39) (by omega)]
        exact o1 w hw
      · rw [e (5 * w + 42) (by omega)]
        exact w1 w hw
      · rw [e 6 (by omega)]
        exact r6
    have hc : zCo (zp_set (zp_set (zp_set V 0 0 0) 3 (2000 + 4) p1) 0 1 0) (zf_ans (zp_set W 1 15 p1) (W 1 15)).2 n1 np Lw' := by
      refine ⟨?_, ?_, ⟨fun j hj => ?_, k1, k2, k3, ?_⟩, ?_, ?_, ?_⟩
      · exact zRr_0 (by decide) (zRr_c (by omega) (zRr_sp (zRr_0 (by decide) g1) (j := 4) (by decide) rfl))
      · refine zRok_q2 (fun j _ hj => hv3 j (by omega)) (fun j hj => ?_) g2
        by_cases cj : j = 4
        · rw [cj]
          show -2147483648 ≤ zp_set (zp_set (zp_set V 0 0 0) 3 (2000 + 4) p1) 0 1 0 3 (2000 + 4) ∧ zp_set (zp_set (zp_set V 0 0 0) 3 (2000 + 4) p1) 0 1 0 3 (2000 + 4) ≤ 2147483647
          rw [hv4]
          omega
        · show -2147483648 ≤ zp_set (zp_set (zp_set V 0 0 0) 3 (2000 + 4) p1) 0 1 0 3 (2000 + j) ∧ zp_set (zp_set (zp_set V 0 0 0) 3 (2000 + 4) p1) 0 1 0 3 (2000 + j) ≤ 2147483647
          rw [hv3 j cj]
          exact g3.1 j (by omega)
      · by_cases cj : j = 4
        · rw [cj, hv4]
          omega
        · rw [hv3 j cj]
          exact g3.1 j hj
      · exact (zp_set_ne (Or.inr (by decide))).trans ((zp_set_ne (Or.inl (by decide))).trans ((zp_set_ne (Or.inr (by decide))).trans g3.2.2.2.2))
      · exact (zp_set_ne (Or.inr (by decide))).trans ((zp_set_ne (Or.inl (by decide))).trans ((zp_set_ne (Or.inr (by decide))).trans g4))
      · have h9 := zSt_stc (v := 0) (V := zp_set (zp_set V 0 0 0) 3 (2000 + 4) p1) (W := zp_set W 1 15 p1) (zSt_e g5 ((zp_set_ne (Or.inl (by decide))).trans (zp_set_ne (Or.inr (by decide)))) (fun k => (zp_set_ne (Or.inl (by decide))).trans (zp_set_ne (Or.inl (by decide)))) (zp_set_ne (Or.inl (by decide))) (fun k => zp_set_ne (Or.inl (by decide)))) (by decide)
        have e1 : zT_tell (zp_set (zp_set V 0 0 0) 3 (2000 + 4) p1) 0 = zp_set (zp_set (zp_set V 0 0 0) 3 (2000 + 4) p1) 0 1 0 := if_neg (by decide)
        rw [e1] at h9
        unfold zf_stc at h9
        rw [if_pos (by decide)] at h9
        exact h9
      · have u1 := zUU_p (j := 4) (v := p1) (by decide) (by omega) (zUU_e (V' := zp_set V 0 0 0) (W' := W) ⟨zp_set_ne (Or.inr (by decide)), fun j _ => zp_set_ne (Or.inl (by decide)), fun j _ => zp_set_ne (Or.inl (by decide))⟩ (fun j _ _ => zp_set_ne (Or.inl (by decide))) ⟨rfl, rfl, fun _ _ => rfl, fun _ _ => rfl⟩ g6)
        refine zUU_e ⟨zp_set_ne (Or.inr (by decide)), fun j _ => zp_set_ne (Or.inl (by decide)), fun j _ => zp_set_ne (Or.inl (by decide))⟩ (fun j _ _ => zp_set_ne (Or.inl (by decide))) (zUd_f (fun o k ho => ?_)) u1
        exact (zp_set_ne (by omega)).trans (zp_set_ne (by omega))
    have vo : ∀ o k, o ≠ 3 → zVx o k → zp_set (zp_set (zp_set V 0 0 0) 3 (2000 + 4) p1) 0 1 0 o k = V o k := fun o k h3 ho => by
      unfold zVx at ho
      simp (disch := omega) only [zp_set_ne]
    refine ⟨a2, n1, np, Lw', hc, k4, hlaw, hrow, ?_⟩
    exact ⟨zTp_e (vo _ _ (by decide) (by unfold zVx; omega)) (fun k => vo _ _ (by decide) (by unfold zVx; omega)) (hw _ _ (by unfold zWx; omega)) (fun k => hw _ _ (by unfold zWx; omega)) c3, ⟨(hw 0 17 (by unfold zWx; omega)).trans (c4.1.trans (vo 0 11 (by decide) (by unfold zVx; omega)).symm), (hw 12 2 (by unfold zWx; omega)).trans (c4.2.1.trans (vo 0 18 (by decide) (by unfold zVx; omega)).symm), (hw 0 15 (by unfold zWx; omega)).trans (c4.2.2.trans (vo 0 59 (by decide) (by unfold zVx; omega)).symm)⟩, zDwn_e (vo _ _ (by decide) (by unfold zVx; omega)) (fun k => vo _ _ (by decide) (by unfold zVx; omega)) (fun o k ho => hw _ _ (by unfold zWx; omega)) c5, zIms_e (fun k => vo _ _ (by decide) (by unfold zVx; omega)) (fun k => vo _ _ (by decide) (by unfold zVx; omega)) (fun k => hw _ _ (by unfold zWx; omega)) (fun o k ho => hw _ _ (by unfold zWx; omega)) c6, zCst_e (by rw [vo 0 30 (by decide) (by unfold zVx; omega)]; exact c7.1) (fun o k ho => vo _ _ (by omega) (by unfold zVx; omega)) c7⟩
  unfold zf_frcc zf_frc
  rw [a1, hnl]
  by_cases d1 : p1 = -1
  · rw [if_pos d1, if_pos d1]
    exact good (by omega)
  · rw [if_neg d1, if_neg d1]
    by_cases d2 : 0 ≤ p1 ∧ p1 ≤ (nl : Int) - 1
    · rw [if_pos d2, if_pos d2]
      exact good (by omega)
    · rw [if_neg d2, if_neg d2]
      dsimp only
      exact ⟨zf_rfs_1, zF_s h hl he (zCo_rf h (by decide) (by decide)) (fun o k ho => zVx_rf ho) (fun o k ho => zWx_rfs ho)⟩
