/-! part mg: rows of works from the tape, decades -/
theorem zF_z {A : Nat → Nat} {Y : List (Nat × Nat)} {F : List (Nat × Nat × Nat)} {V V' W W' : Nat → Nat → Int} {n1 np n1' np' : Nat} {Lw : List yK} (h : zCo V W n1 np Lw) (hl : zLF A Y F W Lw) (he : zEx A Y F V W n1 np) (hc : zCo V' W' n1' np' Lw) (hR : ∀ j, (j = 3 ∨ j = 4 ∨ 180 ≤ j) → V' 3 (2000 + j) = V 3 (2000 + j)) (hr : zRow (zRw V') n1' np') (htp : zTp V' W') (hb : W' 0 17 = V' 0 11 ∧ W' 12 2 = V' 0 18 ∧ W' 0 15 = V' 0 59) (hdw : zDwn V' W') (h30 : 0 ≤ V' 0 30) (hV : ∀ o k, (o = 4 ∨ o = 5 ∨ o = 31 ∨ o = 32 ∨ o = 33) → V' o k = V o k) (hW : ∀ o k, (o = 40 ∨ 100 ≤ o ∨ o = 22) → W' o k = W o k) : zFull A Y F V' W' := by
  obtain ⟨a1, a2⟩ := zRr_34 h.1
  obtain ⟨b1, b2⟩ := zRr_34 hc.1
  refine ⟨n1', np', Lw, hc, zLF_k ?_ ?_ (fun k => hW _ _ (Or.inl rfl)) (fun o k ho => hW _ _ (Or.inr (Or.inl ho))) hl, zLaw_e (fun i _ => hW _ _ (by omega)) (fun o k t _ _ ho => hW _ _ (by omega)) (fun j hj _ => hR j hj) he.1, hr, htp, hb, hdw, zIms_e (fun k => hV _ _ (by omega)) (fun k => hV _ _ (by omega)) (fun k => hW _ _ (by omega)) (fun o k ho => hW _ _ (by omega)) he.2.2.2.2.2.1, zCst_e h30 (fun o k ho => hV _ _ (by omega)) he.2.2.2.2.2.2⟩
  · rw [a1, b1]
    exact hR 3 (Or.inl rfl)
  · rw [a2, b2]
    exact hR 4 (Or.inr (Or.inl rfl))
theorem zc_rw_o {W : Nat → Nat → Int} {o k : Nat} (h : o ∉ ([1, 32, 33, 34, 35, 36, 52] : List Nat)) (h17 : o ≠ 0 ∨ k ≠ 17) : ∀ n : Nat, (zc_rw W n).2 o k = W o k
  | 0 => rfl
  | n + 1 => by
    have ih := zc_rw_o (W := W) h h17 n
    rw [zc_rw]
    split
    · exact (zp_set_ne h17).trans ((zf_awr_f h).trans ih)
    · exact (zf_awr_f h).trans ih
theorem zr_rw_k {V : Nat → Nat → Int} {np ln n : Nat} (h1 : V 3 (2000 + 1) = (n : Int)) (hn : n ≤ 10) (h : zRow (zRw V) n np) : ∀ k : Nat, (∃ m : Nat, zRow (zRw (zr_rw V np ln k).2) m np ∧ (zr_rw V np ln k).2 3 (2000 + 1) = (m : Int) ∧ m ≤ 10) ∧ (∀ j, (j = 3 ∨ j = 4 ∨ 180 ≤ j) → (zr_rw V np ln k).2 3 (2000 + j) = V 3 (2000 + j)) ∧ ∀ o i, o ≠ 3 → (o ≠ 0 ∨ i ≠ 11) → (zr_rw V np ln k).2 o i = V o i
  | 0 => ⟨⟨n, h, h1, hn⟩, fun _ _ => rfl, fun _ _ _ _ => rfl⟩
  | k + 1 => by
    obtain ⟨⟨m, a1, a2, a3⟩, a4, a5⟩ := zr_rw_k (ln := ln) h1 hn h k
    rw [zr_rw]
    split
    · have em : ((zr_rw V np ln k).2 3 (2000 + 1)).toNat = m := by omega
      obtain ⟨⟨m', b1, b2, b3⟩, b4⟩ := zRow_wk1 (a := (zr_rw V np ln k).2 12 (2000 + 4 * k)) (b := (zr_rw V np ln k).2 12 (2000 + (4 * k + 1))) (c := (zr_rw V np ln k).2 12 (2000 + (4 * k + 2))) (d := (zr_rw V np ln k).2 12 (2000 + (4 * k + 3))) (e := -1) a2 a3 a1
      dsimp only
      unfold zr_w4q
      rw [em]
      exact ⟨⟨m', b1, b2, b3⟩, fun j hj => (b4 j hj).trans (a4 j hj), fun o i h3 h0 => (zf_wk1_f (fun hm => h3 (List.mem_singleton.mp hm))).trans (a5 o i h3 h0)⟩
    · dsimp only
      exact ⟨⟨m, zRow_e a3 (fun j _ _ => zp_set_ne (Or.inl (by decide))) a1, (zp_set_ne (Or.inl (by decide))).trans a2, a3⟩, fun j hj => (zp_set_ne (Or.inl (by decide))).trans (a4 j hj), fun o i h3 h0 => (zp_set_ne (by omega)).trans (a5 o i h3 h0)⟩
theorem zP_row {A : Nat → Nat} {Y : List (Nat × Nat)} {F : List (Nat × Nat × Nat)} {V W : Nat → Nat → Int} {n1 np ln : Nat} {Lw : List yK} (h : zCo V W n1 np Lw) (hl : zLF A Y F W Lw) (he : zEx A Y F V W n1 np) (hln : V 0 13 = (ln : Int)) : (zf_rowc W).1 = (zf_rowr V np ln).1 ∧ zFull A Y F (zf_rowr V np ln).2 (zf_rowc W).2 := by
  obtain ⟨⟨hn1, hnp⟩, ⟨hz1, hz0⟩, -⟩ := zCo_n h
  obtain ⟨e0, ⟨n', hc⟩, ht, hd⟩ := zS_row h he.2.2.1 he.2.2.2.1.1 hln
  have hn' := (zCo_n hc).2.1.1
  have key : (∃ m : Nat, zRow (zRw (zf_rowr V np ln).2) m np ∧ (zf_rowr V np ln).2 3 (2000 + 1) = (m : Int)) ∧ (∀ j, (j = 3 ∨ j = 4 ∨ 180 ≤ j) → (zf_rowr V np ln).2 3 (2000 + j) = V 3 (2000 + j)) ∧ ∀ o i, o ≠ 2 → o ≠ 3 → (o ≠ 0 ∨ (i ≠ 0 ∧ i ≠ 1 ∧ i ≠ 8 ∧ i ≠ 11 ∧ i ≠ 13)) → (zf_rowr V np ln).2 o i = V o i := by
    unfold zf_rowr
    split
    · dsimp only
      have e : ∀ o i, o ≠ 2 → (o ≠ 0 ∨ (i ≠ 0 ∧ i ≠ 1 ∧ i ≠ 13)) → zT_tell (zp_set (zp_set V 0 0 0) 0 13 0) (-6) o i = V o i := fun o i h2 h0 => (zT_tell_k h2 (by omega)).trans ((zp_set_ne (by omega)).trans (zp_set_ne (by omega)))
      exact ⟨⟨n1, zRow_e hn1 (fun j _ _ => e _ _ (by decide) (Or.inl (by decide))) he.2.1, (e _ _ (by decide) (Or.inl (by decide))).trans hz1⟩, fun j _ => e _ _ (by decide) (Or.inl (by decide)), fun o i h2 h3 h0 => e o i h2 (by omega)⟩
    · dsimp only
      have b3 : ∀ i, zp_set (zp_set (zp_set V 0 0 0) 0 13 0) 0 11 0 3 i = V 3 i := fun i => (zp_set_ne (Or.inl (by decide))).trans ((zp_set_ne (Or.inl (by decide))).trans (zp_set_ne (Or.inl (by decide))))
      obtain ⟨⟨m, a1, a2, a3⟩, a4, a5⟩ := zr_rw_k (V := zp_set (zp_set (zp_set V 0 0 0) 0 13 0) 0 11 0) (np := np) (ln := ln) (n := n1) ((b3 _).trans hz1) hn1 (zRow_e hn1 (fun j _ _ => b3 _) he.2.1) ((ln + 3) / 4)
      refine ⟨⟨m, zRow_e a3 (fun j _ _ => zf_stl_o (by decide) (by decide)) a1, (zf_stl_o (by decide) (by decide)).trans a2⟩, fun j hj => (zf_stl_o (by decide) (by decide)).trans ((a4 j hj).trans (b3 _)), fun o i h2 h3 h0 => ?_⟩
      have s1 : ∀ (X : Nat → Nat → Int) (v : Int), (zf_stl X v).2 o i = X o i := fun X v => by
        unfold zf_stl
        split
        · exact (zT_tell_k h2 (by omega)).trans (zp_set_ne (by omega))
        · exact (zT_tell_k h2 (by omega)).trans (zp_set_ne (by omega))
      exact (s1 _ _).trans ((a5 o i h3 (by omega)).trans ((zp_set_ne (by omega)).trans ((zp_set_ne (by omega)).trans (zp_set_ne (by omega)))))
  obtain ⟨⟨m, k1, k2⟩, k3, k4⟩ := key
  have hm : m = n' := by omega
  subst hm
  have w0 : ∀ o k, (o = 40 ∨ 100 ≤ o ∨ o = 22 ∨ o = 71 ∨ o = 7 ∨ o = 55 ∨ (o = 0 ∧ k = 15) ∨ (o = 12 ∧ k = 2) ∨ (o = 6 ∧ (k = 2 ∨ k = 3))) → (zf_rowc W).2 o k = W o k := fun o k ho => by
    unfold zf_rowc
    split
    · dsimp only
      exact zf_rfs_k (by omega) (by omega)
    · dsimp only
      refine (zp_set_ne (by omega)).trans ((zp_set_ne (by omega)).trans ((zp_set_ne (by omega)).trans ((zc_rw_o (fun hm => ?_) (by omega) _).trans (zp_set_ne (by omega)))))
      simp only [List.mem_cons, List.not_mem_nil, or_false] at hm
      omega
  refine ⟨e0, zF_z h hl he hc k3 k1 ht ⟨hd, ?_, ?_⟩ ?_ ?_ (fun o k ho => k4 o k (by omega) (by omega) (by omega)) (fun o k ho => w0 o k (by omega))⟩
  · rw [w0 12 2 (by omega), k4 0 18 (by decide) (by decide) (by decide)]
    exact he.2.2.2.1.2.1
  · rw [w0 0 15 (by omega), k4 0 59 (by decide) (by decide) (by decide)]
    exact he.2.2.2.1.2.2
  · exact zDwn_e (k4 0 63 (by decide) (by decide) (by decide)) (fun k => k4 62 k (by decide) (by decide) (Or.inl (by decide))) (fun o k ho => w0 o k (by omega)) he.2.2.2.2.1
  · rw [k4 0 30 (by decide) (by decide) (by decide)]
    exact he.2.2.2.2.2.2.1
theorem zP_dcd {A : Nat → Nat} {Y : List (Nat × Nat)} {F : List (Nat × Nat × Nat)} {V V' W : Nat → Nat → Int} {n1 np : Nat} {Lw : List yK} {p1 p2 rn : Int} (h : zCo V W n1 np Lw) (hl : zLF A Y F W Lw) (he : zEx A Y F V W n1 np) (hd : (¬ ((0 ≤ p1 ∧ p1 ≤ 1000000) ∧ 1 ≤ p2 ∧ p2 ≤ 60) ∧ rn = -1 ∧ V' = zT_tell (zp_set V 0 0 0) (-1)) ∨ ((0 ≤ p1 ∧ p1 ≤ 1000000) ∧ 1 ≤ p2 ∧ p2 ≤ 60) ∧ zDeq V V' n1 np Lw p1 p2 rn) : (zf_dcdc W n1 np Lw p1 p2).1 = rn ∧ zFull A Y F V' (zf_dcdc W n1 np Lw p1 p2).2 := by
  obtain ⟨⟨hn1, hnp⟩, -⟩ := zCo_n h
  rcases hd with ⟨c1, rfl, rfl⟩ | ⟨c1, hD⟩
  · have e : zf_dcdc W n1 np Lw p1 p2 = ((zf_rfs W (-1)).1, (zf_rfs W (-1)).2) := by
      unfold zf_dcdc
      by_cases d1 : 0 ≤ p1 ∧ p1 ≤ 1000000
      · rw [if_pos d1, if_neg (fun d2 => c1 ⟨d1, d2⟩)]
      · rw [if_neg d1]
    rw [e]
    dsimp only
    exact ⟨zf_rfs_1, zF_s h hl he (zCo_rf h (by decide) (by decide)) (fun o k ho => zVx_rf ho) (fun o k ho => zWx_rfs ho)⟩
  · obtain ⟨e0, hc, hdw, f1, f2, f3⟩ := zS_dcd h hl he.2.1.2.2.2.1 c1 hD
    obtain ⟨-, g2, -⟩ := hD _ rfl
    have v3 : ∀ k, V' 3 k = V 3 k := fun k => (g2 3 k (by decide) (Or.inl (by decide)) (Or.inl (by decide))).trans ((zT_tell_k (by decide) (Or.inl (by decide))).trans (zp_set_ne (Or.inl (by decide))))
    have w0 : ∀ o k, (o = 40 ∨ 100 ≤ o ∨ o = 22 ∨ o = 71 ∨ o = 11 ∨ (o = 0 ∧ (k = 15 ∨ k = 17)) ∨ o = 12) → (zf_dcdc W n1 np Lw p1 p2).2 o k = W o k := fun o k ho => f3 o k (by unfold zDu; omega) (by omega) (by omega)
    refine ⟨e0, zF_z h hl he hc (fun j _ => v3 _) (zRow_e hn1 (fun j _ _ => v3 _) he.2.1) (zTp_e (f2 13 (by decide) (by decide) (by decide) (by decide)) (fun k => f1 12 k (by decide) (by decide) (by decide) (by decide) (by decide) (by decide)) (w0 _ _ (by omega)) (fun k => w0 _ _ (by omega)) he.2.2.1) ⟨?_, ?_, ?_⟩ hdw ?_ (fun o k ho => f1 o k (by omega) (by omega) (by omega) (by omega) (by omega) (by omega)) (fun o k ho => w0 o k (by omega))⟩
    · rw [w0 0 17 (by omega), f2 11 (by decide) (by decide) (by decide) (by decide)]
      exact he.2.2.2.1.1
    · rw [w0 12 2 (by omega), f2 18 (by decide) (by decide) (by decide) (by decide)]
      exact he.2.2.2.1.2.1
    · rw [w0 0 15 (by omega), f2 59 (by decide) (by decide) (by decide) (by decide)]
      exact he.2.2.2.1.2.2
    · rw [f2 30 (by decide) (by decide) (by decide) (by decide)]
      exact he.2.2.2.2.2.2.1
